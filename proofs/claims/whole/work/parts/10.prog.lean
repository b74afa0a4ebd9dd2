/-! the tables of the program: kinds of objects, methods (printed by a program of mine out of the words of the tables and of the code) -/
def mc_T (l : List (String × String × String × Bool)) : u_T := fun k => l.getD k ("", "", "", false)
def mc_cl : List vw_C := [("SmallerInTheShop$Draws", mc_T [("SmallerInTheShop$Draws", "seed", "I", false), ("SmallerInTheShop$Draws", "depth", "I", false)], 2),
  ("SmallerInTheShop$Layout", mc_T [("SmallerInTheShop$Layout", "columnOf", "[I", true), ("SmallerInTheShop$Layout", "rowOf", "[I", true), ("SmallerInTheShop$Layout", "layerOf", "[I", true), ("SmallerInTheShop$Layout", "downOf", "[I", true), ("SmallerInTheShop$Layout", "sideOf", "[I", true), ("SmallerInTheShop$Layout", "heapIn", "[I", true), ("SmallerInTheShop$Layout", "width", "I", false), ("SmallerInTheShop$Layout", "height", "I", false), ("SmallerInTheShop$Layout", "fresh", "I", false)], 9),
  ("SmallerInTheShop$Letters", mc_T [("SmallerInTheShop$Letters", "signs", "[I", true), ("SmallerInTheShop$Letters", "size", "I", false)], 2),
  ("SmallerInTheShop$Search", mc_T [("SmallerInTheShop$Search", "layerWanted", "[I", true), ("SmallerInTheShop$Search", "hitsWith", "[I", true), ("SmallerInTheShop$Search", "goal", "I", false), ("SmallerInTheShop$Search", "pocket", "I", false), ("SmallerInTheShop$Search", "set", "I", false), ("SmallerInTheShop$Search", "found", "Z", false), ("SmallerInTheShop$Search", "leastCost", "I", false), ("SmallerInTheShop$Search", "leastWay", "I", false)], 8),
  ("SmallerInTheShop$Sheet", mc_T [("SmallerInTheShop$Sheet", "layouts", "[LSmallerInTheShop$Layout;", true), ("SmallerInTheShop$Sheet", "kindOf", "[I", true), ("SmallerInTheShop$Sheet", "figureOf", "[I", true), ("SmallerInTheShop$Sheet", "wornOf", "[I", true), ("SmallerInTheShop$Sheet", "foldCount", "I", false), ("SmallerInTheShop$Sheet", "coverPanel", "I", false)], 6),
  ("SmallerInTheShop", mc_T [("SmallerInTheShop", "now", "LSmallerInTheShop$Sheet;", true), ("SmallerInTheShop", "taken", "LSmallerInTheShop$Sheet;", true), ("SmallerInTheShop", "trial", "LSmallerInTheShop$Sheet;", true), ("SmallerInTheShop", "search", "LSmallerInTheShop$Search;", true), ("SmallerInTheShop", "letters", "LSmallerInTheShop$Letters;", true), ("SmallerInTheShop", "draws", "LSmallerInTheShop$Draws;", true), ("SmallerInTheShop", "told", "[I", true), ("SmallerInTheShop", "refusals", "[I", true), ("SmallerInTheShop", "toldCount", "I", false), ("SmallerInTheShop", "hasTaken", "Z", false)], 10),
  ("SmallerInTheShopModel", mc_T [("SmallerInTheShopModel", "now", "[I", true), ("SmallerInTheShopModel", "kept", "[I", true), ("SmallerInTheShopModel", "deep", "[[I", true), ("SmallerInTheShopModel", "hasImage", "Z", false), ("SmallerInTheShopModel", "refusals", "[I", true), ("SmallerInTheShopModel", "row", "[I", true), ("SmallerInTheShopModel", "rows", "I", false), ("SmallerInTheShopModel", "letters", "[I", true), ("SmallerInTheShopModel", "lettered", "I", false), ("SmallerInTheShopModel", "was", "[I", true), ("SmallerInTheShopModel", "kinds", "Ljava/lang/String;", true), ("SmallerInTheShopModel", "aim", "I", false), ("SmallerInTheShopModel", "aimA", "I", false), ("SmallerInTheShopModel", "aimB", "I", false), ("SmallerInTheShopModel", "bestWay", "I", false), ("SmallerInTheShopModel", "bestEffort", "I", false), ("SmallerInTheShopModel", "fewest", "I", false), ("SmallerInTheShopModel", "many", "I", false), ("SmallerInTheShopModel", "z", "I", false)], 19)]
def mc_ty : List (List FieldType) := [[.int, .int],
  [.array .int, .array .int, .array .int, .array .int, .array .int, .array .int, .int, .int, .int],
  [.array .int, .int],
  [.array .int, .array .int, .int, .int, .int, .boolean, .int, .int],
  [.array (.object "SmallerInTheShop$Layout"), .array .int, .array .int, .array .int, .int, .int],
  [.object "SmallerInTheShop$Sheet", .object "SmallerInTheShop$Sheet", .object "SmallerInTheShop$Sheet", .object "SmallerInTheShop$Search", .object "SmallerInTheShop$Letters", .object "SmallerInTheShop$Draws", .array .int, .array .int, .int, .boolean],
  [.array .int, .array .int, .array (.array .int), .boolean, .array .int, .array .int, .int, .array .int, .int, .array .int, .object "java/lang/String", .int, .int, .int, .int, .int, .int, .int, .int]]
def mc_fty (ci k : Nat) : FieldType := (mc_ty.getD ci []).getD k .int
def mc_nf (ci : Nat) : List Value := (mc_ty.getD ci []).map defaultValue
def mc_lay : String := "SmallerInTheShop$Layout"
def mc_sf (k : Nat) : String × String := if k = 0 then ("value", "[B") else ("coder", "B")
def mc_sts : List (String × String × String × Value) := [("SmallerInTheShop", "CREASE_START", "[I", .retAddr 1), ("SmallerInTheShop", "CREASE_END", "[I", .retAddr 2), ("java/lang/String", "COMPACT_STRINGS", "Z", .int 1), ("jdk/internal/util/Preconditions", "SIOOBE_FORMATTER", "Ljava/util/function/BiFunction;", .retAddr 20)]
def mc_sks : List (String × Nat × String × Nat) := [("SmallerInTheShop$Letters", 23, "cmvsto", 30), ("SmallerInTheShop$Letters", 59, "0k0;", 31), ("SmallerInTheShop$Letters", 61, "000;", 32), ("SmallerInTheShop$Letters", 63, "00;", 33), ("SmallerInTheShop$Letters", 65, ";", 34), ("SmallerInTheShop$Letters", 67, "0;", 35), ("SmallerInTheShop$Letters", 69, "", 36), ("SmallerInTheShopModel", 33, "cmvsto", 37)]
def mc_X (scr : List Int32) : mm_X := fun n => match n with
  | 0 => some (.inl scr)
  | 1 => some (.inl [0, 1, 2, 4, 5, 6, 0, 1, 2, 3])
  | 2 => some (.inl [1, 2, 3, 5, 6, 7, 4, 5, 6, 7])
  | 30 => some (.inr [.retAddr 60, .int 0])
  | 31 => some (.inr [.retAddr 61, .int 0])
  | 32 => some (.inr [.retAddr 62, .int 0])
  | 33 => some (.inr [.retAddr 63, .int 0])
  | 34 => some (.inr [.retAddr 64, .int 0])
  | 35 => some (.inr [.retAddr 65, .int 0])
  | 36 => some (.inr [.retAddr 66, .int 0])
  | 37 => some (.inr [.retAddr 67, .int 0])
  | 60 => some (.inl [99, 109, 118, 115, 116, 111])
  | 61 => some (.inl [48, 107, 48, 59])
  | 62 => some (.inl [48, 48, 48, 59])
  | 63 => some (.inl [48, 48, 59])
  | 64 => some (.inl [59])
  | 65 => some (.inl [48, 59])
  | 66 => some (.inl [])
  | 67 => some (.inl [99, 109, 118, 115, 116, 111])
  | _ => none
def mc_co (l : List (Nat × mm_I)) (pc : Nat) : Option mm_I := l.lookup pc
/-- java/lang/Integer bitCount (I)I -/
def mp_0 : List (Nat × mm_I) := [(0, .iload_n 0, 1, 0, 0, .null, []), (1, .iload_n 0, 1, 0, 0, .null, []), (2, .iconst 1, 1, 0, 0, .null, []), (3, .iushr, 1, 0, 0, .null, []), (4, .ldc_w 265, 3, 0, 0, .int (1431655765), [680]), (7, .iand, 1, 0, 0, .null, []),
  (8, .isub, 1, 0, 0, .null, []), (9, .istore_n 0, 1, 0, 0, .null, []), (10, .iload_n 0, 1, 0, 0, .null, []), (11, .ldc_w 266, 3, 0, 0, .int (858993459), [681]), (14, .iand, 1, 0, 0, .null, []), (15, .iload_n 0, 1, 0, 0, .null, []),
  (16, .iconst 2, 1, 0, 0, .null, []), (17, .iushr, 1, 0, 0, .null, []), (18, .ldc_w 266, 3, 0, 0, .int (858993459), [681]), (21, .iand, 1, 0, 0, .null, []), (22, .iadd, 1, 0, 0, .null, []), (23, .istore_n 0, 1, 0, 0, .null, []),
  (24, .iload_n 0, 1, 0, 0, .null, []), (25, .iload_n 0, 1, 0, 0, .null, []), (26, .iconst 4, 1, 0, 0, .null, []), (27, .iushr, 1, 0, 0, .null, []), (28, .iadd, 1, 0, 0, .null, []), (29, .ldc_w 267, 3, 0, 0, .int (252645135), [682]),
  (32, .iand, 1, 0, 0, .null, []), (33, .istore_n 0, 1, 0, 0, .null, []), (34, .iload_n 0, 1, 0, 0, .null, []), (35, .iload_n 0, 1, 0, 0, .null, []), (36, .bipush 8, 2, 0, 0, .null, []), (38, .iushr, 1, 0, 0, .null, []),
  (39, .iadd, 1, 0, 0, .null, []), (40, .istore_n 0, 1, 0, 0, .null, []), (41, .iload_n 0, 1, 0, 0, .null, []), (42, .iload_n 0, 1, 0, 0, .null, []), (43, .bipush 16, 2, 0, 0, .null, []), (45, .iushr, 1, 0, 0, .null, []),
  (46, .iadd, 1, 0, 0, .null, []), (47, .istore_n 0, 1, 0, 0, .null, []), (48, .iload_n 0, 1, 0, 0, .null, []), (49, .bipush 63, 2, 0, 0, .null, []), (51, .iand, 1, 0, 0, .null, []), (52, .ireturn, 1, 0, 0, .null, [])]
/-- java/lang/String isEmpty ()Z -/
def mp_1 : List (Nat × mm_I) := [(0, .aload_n 0, 1, 0, 0, .null, []), (1, .getfield 9, 3, 99, 0, .null, [1262, 0]), (4, .arraylength, 1, 0, 0, .null, []), (5, .ifCond .ne 7, 3, 12, 0, .null, []), (8, .iconst 1, 1, 0, 0, .null, []), (9, .goto 4, 3, 13, 0, .null, []),
  (12, .iconst 0, 1, 0, 0, .null, []), (13, .ireturn, 1, 0, 0, .null, [])]
/-- java/lang/String length ()I -/
def mp_2 : List (Nat × mm_I) := [(0, .aload_n 0, 1, 0, 0, .null, []), (1, .getfield 9, 3, 99, 0, .null, [1262, 0]), (4, .arraylength, 1, 0, 0, .null, []), (5, .aload_n 0, 1, 0, 0, .null, []), (6, .invokevirtual 335, 3, 3, 1, .null, [299, 0, 300, 62, 301]), (9, .ishr, 1, 0, 0, .null, []),
  (10, .ireturn, 1, 0, 0, .null, [])]
/-- java/lang/String coder ()B -/
def mp_3 : List (Nat × mm_I) := [(0, .getstatic 38, 3, 0, 0, .int 1, [303, 0, 2]), (3, .ifCond .eq 10, 3, 13, 0, .null, []), (6, .aload_n 0, 1, 0, 0, .null, []), (7, .getfield 15, 3, 99, 1, .null, [1263, 0]), (10, .goto 4, 3, 14, 0, .null, []), (13, .iconst 1, 1, 0, 0, .null, []),
  (14, .ireturn, 1, 0, 0, .null, [])]
/-- java/lang/String charAt (I)C -/
def mp_4 : List (Nat × mm_I) := [(0, .aload_n 0, 1, 0, 0, .null, []), (1, .invokevirtual 492, 3, 5, 1, .null, [309, 0, 310, 62, 311]), (4, .ifCond .eq 12, 3, 16, 0, .null, []), (7, .aload_n 0, 1, 0, 0, .null, []), (8, .getfield 9, 3, 99, 0, .null, [1262, 0]), (11, .iload_n 1, 1, 0, 0, .null, []),
  (12, .invokestatic 495, 3, 9, 2, .null, [313, 0, 314, 63]), (15, .ireturn, 1, 0, 0, .null, []), (16, .aload_n 0, 1, 0, 0, .null, []), (17, .getfield 9, 3, 99, 0, .null, [1262, 0]), (20, .iload_n 1, 1, 0, 0, .null, []), (24, .ireturn, 1, 0, 0, .null, [])]
/-- java/lang/String isLatin1 ()Z -/
def mp_5 : List (Nat × mm_I) := [(0, .getstatic 38, 3, 0, 0, .int 1, [303, 0, 2]), (3, .ifCond .eq 14, 3, 17, 0, .null, []), (6, .aload_n 0, 1, 0, 0, .null, []), (7, .getfield 15, 3, 99, 1, .null, [1263, 0]), (10, .ifCond .ne 7, 3, 17, 0, .null, []), (13, .iconst 1, 1, 0, 0, .null, []),
  (14, .goto 4, 3, 18, 0, .null, []), (17, .iconst 0, 1, 0, 0, .null, []), (18, .ireturn, 1, 0, 0, .null, [])]
/-- java/lang/String checkIndex (II)V -/
def mp_6 : List (Nat × mm_I) := [(0, .iload_n 0, 1, 0, 0, .null, []), (1, .iload_n 1, 1, 0, 0, .null, []), (2, .getstatic 1053, 3, 0, 0, .retAddr 20, [319, 0, 3]), (5, .invokestatic 1059, 3, 13, 3, .null, [321, 0, 322, 64]), (8, .pop, 1, 0, 0, .null, []), (9, .return_, 1, 0, 0, .null, [])]
/-- java/lang/String indexOf (I)I -/
def mp_7 : List (Nat × mm_I) := [(0, .aload_n 0, 1, 0, 0, .null, []), (1, .iload_n 1, 1, 0, 0, .null, []), (2, .iconst 0, 1, 0, 0, .null, []), (3, .invokevirtual 633, 3, 8, 3, .null, [351, 0, 352, 62, 353]), (6, .ireturn, 1, 0, 0, .null, [])]
/-- java/lang/String indexOf (II)I -/
def mp_8 : List (Nat × mm_I) := [(0, .aload_n 0, 1, 0, 0, .null, []), (1, .invokevirtual 492, 3, 5, 1, .null, [309, 0, 310, 62, 311]), (4, .ifCond .eq 19, 3, 23, 0, .null, []), (7, .aload_n 0, 1, 0, 0, .null, []), (8, .getfield 9, 3, 99, 0, .null, [1262, 0]), (11, .iload_n 1, 1, 0, 0, .null, []),
  (12, .iload_n 2, 1, 0, 0, .null, []), (13, .aload_n 0, 1, 0, 0, .null, []), (14, .invokevirtual 505, 3, 2, 1, .null, [355, 0, 296, 62, 297]), (17, .invokestatic 637, 3, 10, 4, .null, [356, 0, 357, 63]), (20, .goto 16, 3, 36, 0, .null, []), (23, .aload_n 0, 1, 0, 0, .null, []),
  (24, .getfield 9, 3, 99, 0, .null, [1262, 0]), (27, .iload_n 1, 1, 0, 0, .null, []), (28, .iload_n 2, 1, 0, 0, .null, []), (29, .aload_n 0, 1, 0, 0, .null, []), (30, .invokevirtual 505, 3, 2, 1, .null, [355, 0, 296, 62, 297]), (36, .ireturn, 1, 0, 0, .null, [])]
/-- java/lang/StringLatin1 charAt ([BI)C -/
def mp_9 : List (Nat × mm_I) := [(0, .iload_n 1, 1, 0, 0, .null, []), (1, .aload_n 0, 1, 0, 0, .null, []), (2, .arraylength, 1, 0, 0, .null, []), (3, .invokestatic 9, 3, 6, 2, .null, [316, 0, 317, 62]), (6, .aload_n 0, 1, 0, 0, .null, []), (7, .iload_n 1, 1, 0, 0, .null, []),
  (8, .baload, 1, 0, 0, .null, []), (9, .sipush 255, 3, 0, 0, .null, []), (12, .iand, 1, 0, 0, .null, []), (13, .i2c, 1, 0, 0, .null, []), (14, .ireturn, 1, 0, 0, .null, [])]
/-- java/lang/StringLatin1 indexOf ([BIII)I -/
def mp_10 : List (Nat × mm_I) := [(0, .iload_n 1, 1, 0, 0, .null, []), (1, .invokestatic 88, 3, 11, 1, .null, [359, 0, 360, 63]), (4, .ifCond .ne 5, 3, 9, 0, .null, []), (7, .iconst (-1), 1, 0, 0, .null, []), (8, .ireturn, 1, 0, 0, .null, []), (9, .iload_n 2, 1, 0, 0, .null, []),
  (10, .iconst 0, 1, 0, 0, .null, []), (11, .invokestatic 92, 3, 997, 2, .null, [362, 0, 363, 66, 364]), (14, .istore_n 2, 1, 0, 0, .null, []), (15, .iload_n 3, 1, 0, 0, .null, []), (16, .aload_n 0, 1, 0, 0, .null, []), (17, .arraylength, 1, 0, 0, .null, []),
  (18, .invokestatic 38, 3, 998, 2, .null, [365, 0, 366, 66, 367]), (21, .istore_n 3, 1, 0, 0, .null, []), (22, .iload_n 2, 1, 0, 0, .null, []), (23, .iload_n 3, 1, 0, 0, .null, []), (24, .if_icmp .lt 5, 3, 29, 0, .null, []), (27, .iconst (-1), 1, 0, 0, .null, []),
  (28, .ireturn, 1, 0, 0, .null, []), (29, .aload_n 0, 1, 0, 0, .null, []), (30, .iload_n 1, 1, 0, 0, .null, []), (31, .iload_n 2, 1, 0, 0, .null, []), (32, .iload_n 3, 1, 0, 0, .null, []), (33, .invokestatic 95, 3, 12, 4, .null, [368, 0, 369, 63]),
  (36, .ireturn, 1, 0, 0, .null, [])]
/-- java/lang/StringLatin1 canEncode (I)Z -/
def mp_11 : List (Nat × mm_I) := [(0, .iload_n 0, 1, 0, 0, .null, []), (1, .ifCond .lt 14, 3, 15, 0, .null, []), (4, .iload_n 0, 1, 0, 0, .null, []), (5, .sipush 255, 3, 0, 0, .null, []), (8, .if_icmp .gt 7, 3, 15, 0, .null, []), (11, .iconst 1, 1, 0, 0, .null, []),
  (12, .goto 4, 3, 16, 0, .null, []), (15, .iconst 0, 1, 0, 0, .null, []), (16, .ireturn, 1, 0, 0, .null, [])]
/-- java/lang/StringLatin1 indexOfChar ([BIII)I -/
def mp_12 : List (Nat × mm_I) := [(0, .iload_n 1, 1, 0, 0, .null, []), (1, .i2b, 1, 0, 0, .null, []), (2, .istore 4, 2, 0, 0, .null, []), (4, .iload_n 2, 1, 0, 0, .null, []), (5, .istore 5, 2, 0, 0, .null, []), (7, .iload 5, 2, 0, 0, .null, []),
  (9, .iload_n 3, 1, 0, 0, .null, []), (10, .if_icmp .ge 21, 3, 31, 0, .null, []), (13, .aload_n 0, 1, 0, 0, .null, []), (14, .iload 5, 2, 0, 0, .null, []), (16, .baload, 1, 0, 0, .null, []), (17, .iload 4, 2, 0, 0, .null, []),
  (19, .if_icmp .ne 6, 3, 25, 0, .null, []), (22, .iload 5, 2, 0, 0, .null, []), (24, .ireturn, 1, 0, 0, .null, []), (25, .iinc 5 1, 3, 0, 0, .null, []), (28, .goto (-21), 3, 7, 0, .null, []), (31, .iconst (-1), 1, 0, 0, .null, []),
  (32, .ireturn, 1, 0, 0, .null, [])]
/-- jdk/internal/util/Preconditions checkIndex (IILjava/util/function/BiFunction;)I -/
def mp_13 : List (Nat × mm_I) := [(0, .iload_n 0, 1, 0, 0, .null, []), (1, .ifCond .lt 8, 3, 9, 0, .null, []), (4, .iload_n 0, 1, 0, 0, .null, []), (5, .iload_n 1, 1, 0, 0, .null, []), (6, .if_icmp .lt 10, 3, 16, 0, .null, []), (9, .aload_n 2, 1, 0, 0, .null, []),
  (10, .iload_n 0, 1, 0, 0, .null, []), (11, .iload_n 1, 1, 0, 0, .null, []), (16, .iload_n 0, 1, 0, 0, .null, []), (17, .ireturn, 1, 0, 0, .null, [])]
/-- SmallerInTheShop$Draws <init> ()V -/
def mp_14 : List (Nat × mm_I) := [(0, .aload_n 0, 1, 0, 0, .null, []), (1, .invokespecial 1, 3, 999, 1, .null, [213, 76, 77]), (4, .aload_n 0, 1, 0, 0, .null, []), (5, .iconst 0, 1, 0, 0, .null, []), (6, .putfield 7, 3, 0, 0, .null, [214, 0]), (9, .aload_n 0, 1, 0, 0, .null, []),
  (10, .iconst 0, 1, 0, 0, .null, []), (11, .putfield 13, 3, 0, 1, .null, [216, 0]), (14, .return_, 1, 0, 0, .null, [])]
/-- SmallerInTheShop$Draws drawBelow (I)I -/
def mp_15 : List (Nat × mm_I) := [(0, .aload_n 0, 1, 0, 0, .null, []), (1, .aload_n 0, 1, 0, 0, .null, []), (2, .getfield 7, 3, 0, 0, .null, [214, 0]), (5, .ldc 16, 2, 0, 0, .int (1664525), [850]), (7, .imul, 1, 0, 0, .null, []), (8, .ldc 17, 2, 0, 0, .int (1013904223), [851]),
  (10, .iadd, 1, 0, 0, .null, []), (11, .putfield 7, 3, 0, 0, .null, [214, 0]), (14, .iload_n 1, 1, 0, 0, .null, []), (15, .iconst 1, 1, 0, 0, .null, []), (16, .if_icmp .ge 7, 3, 23, 0, .null, []), (19, .iconst 0, 1, 0, 0, .null, []),
  (20, .goto 16, 3, 36, 0, .null, []), (23, .aload_n 0, 1, 0, 0, .null, []), (24, .getfield 7, 3, 0, 0, .null, [214, 0]), (27, .ldc 18, 2, 0, 0, .int (2147483647), [852]), (29, .iand, 1, 0, 0, .null, []), (30, .sipush 256, 3, 0, 0, .null, []),
  (33, .idiv, 1, 0, 0, .null, []), (34, .iload_n 1, 1, 0, 0, .null, []), (35, .irem, 1, 0, 0, .null, []), (36, .ireturn, 1, 0, 0, .null, [])]
/-- SmallerInTheShop$Kinds effort (IIII)I -/
def mp_16 : List (Nat × mm_I) := [(0, .iload_n 0, 1, 0, 0, .null, []), (1, .tableswitch 72 1 5 #[35, 42, 49, 60, 63], 35, 0, 0, .null, []), (36, .iconst 2, 1, 0, 0, .null, []), (37, .iload_n 1, 1, 0, 0, .null, []), (38, .iload_n 3, 1, 0, 0, .null, []), (39, .invokestatic 9, 3, 17, 3, .null, [513, 0, 514, 68]),
  (42, .ireturn, 1, 0, 0, .null, []), (43, .iconst 1, 1, 0, 0, .null, []), (44, .iload_n 1, 1, 0, 0, .null, []), (45, .iload_n 3, 1, 0, 0, .null, []), (46, .invokestatic 9, 3, 17, 3, .null, [513, 0, 514, 68]), (49, .ireturn, 1, 0, 0, .null, []),
  (50, .iconst 2, 1, 0, 0, .null, []), (51, .iload_n 1, 1, 0, 0, .null, []), (52, .iload_n 2, 1, 0, 0, .null, []), (53, .iload_n 3, 1, 0, 0, .null, []), (54, .invokestatic 15, 3, 18, 2, .null, [516, 0, 517, 68]), (57, .invokestatic 9, 3, 17, 3, .null, [513, 0, 514, 68]),
  (60, .ireturn, 1, 0, 0, .null, []), (61, .bipush 7, 2, 0, 0, .null, []), (63, .ireturn, 1, 0, 0, .null, []), (64, .iconst 1, 1, 0, 0, .null, []), (65, .iload_n 1, 1, 0, 0, .null, []), (66, .iload_n 3, 1, 0, 0, .null, []),
  (67, .invokestatic 9, 3, 17, 3, .null, [513, 0, 514, 68]), (70, .iconst 2, 1, 0, 0, .null, []), (71, .idiv, 1, 0, 0, .null, []), (72, .ireturn, 1, 0, 0, .null, []), (73, .iconst 3, 1, 0, 0, .null, []), (74, .ireturn, 1, 0, 0, .null, [])]
/-- SmallerInTheShop$Kinds effortAgainst (III)I -/
def mp_17 : List (Nat × mm_I) := [(0, .iload_n 2, 1, 0, 0, .null, []), (1, .iload_n 0, 1, 0, 0, .null, []), (2, .if_icmp .ne 9, 3, 11, 0, .null, []), (5, .iconst 3, 1, 0, 0, .null, []), (6, .iload_n 1, 1, 0, 0, .null, []), (7, .iadd, 1, 0, 0, .null, []),
  (8, .goto 4, 3, 12, 0, .null, []), (11, .iconst 3, 1, 0, 0, .null, []), (12, .ireturn, 1, 0, 0, .null, [])]
/-- SmallerInTheShop$Kinds sprungSide (II)I -/
def mp_18 : List (Nat × mm_I) := [(0, .iload_n 0, 1, 0, 0, .null, []), (1, .bipush 10, 2, 0, 0, .null, []), (3, .if_icmp .ge 5, 3, 8, 0, .null, []), (6, .iload_n 1, 1, 0, 0, .null, []), (7, .ireturn, 1, 0, 0, .null, []), (8, .iload_n 1, 1, 0, 0, .null, []),
  (9, .iconst 1, 1, 0, 0, .null, []), (10, .if_icmp .ne 7, 3, 17, 0, .null, []), (13, .iconst 2, 1, 0, 0, .null, []), (14, .goto 4, 3, 18, 0, .null, []), (17, .iconst 1, 1, 0, 0, .null, []), (18, .ireturn, 1, 0, 0, .null, [])]
/-- SmallerInTheShop$Kinds wear (III)I -/
def mp_19 : List (Nat × mm_I) := [(0, .iload_n 0, 1, 0, 0, .null, []), (1, .tableswitch 67 1 5 #[35, 41, 47, 57, 59], 35, 0, 0, .null, []), (36, .iconst 2, 1, 0, 0, .null, []), (37, .iload_n 2, 1, 0, 0, .null, []), (38, .invokestatic 19, 3, 20, 2, .null, [534, 0, 535, 68]), (41, .ireturn, 1, 0, 0, .null, []),
  (42, .iconst 1, 1, 0, 0, .null, []), (43, .iload_n 2, 1, 0, 0, .null, []), (44, .invokestatic 19, 3, 20, 2, .null, [534, 0, 535, 68]), (47, .ireturn, 1, 0, 0, .null, []), (48, .iconst 2, 1, 0, 0, .null, []), (49, .iload_n 1, 1, 0, 0, .null, []),
  (50, .iload_n 2, 1, 0, 0, .null, []), (51, .invokestatic 15, 3, 18, 2, .null, [516, 0, 517, 68]), (54, .invokestatic 19, 3, 20, 2, .null, [534, 0, 535, 68]), (57, .ireturn, 1, 0, 0, .null, []), (58, .iconst 0, 1, 0, 0, .null, []), (59, .ireturn, 1, 0, 0, .null, []),
  (60, .iconst 1, 1, 0, 0, .null, []), (61, .iload_n 2, 1, 0, 0, .null, []), (62, .invokestatic 19, 3, 20, 2, .null, [534, 0, 535, 68]), (65, .iconst 1, 1, 0, 0, .null, []), (66, .iadd, 1, 0, 0, .null, []), (67, .ireturn, 1, 0, 0, .null, []),
  (68, .iconst 1, 1, 0, 0, .null, []), (69, .ireturn, 1, 0, 0, .null, [])]
/-- SmallerInTheShop$Kinds wearAgainst (II)I -/
def mp_20 : List (Nat × mm_I) := [(0, .iload_n 1, 1, 0, 0, .null, []), (1, .iload_n 0, 1, 0, 0, .null, []), (2, .if_icmp .ne 7, 3, 9, 0, .null, []), (5, .iconst 2, 1, 0, 0, .null, []), (6, .goto 4, 3, 10, 0, .null, []), (9, .iconst 1, 1, 0, 0, .null, []),
  (10, .ireturn, 1, 0, 0, .null, [])]
/-- SmallerInTheShop$Layout <init> ()V -/
def mp_21 : List (Nat × mm_I) := [(0, .aload_n 0, 1, 0, 0, .null, []), (1, .invokespecial 3, 3, 999, 1, .null, [90, 76, 77]), (4, .aload_n 0, 1, 0, 0, .null, []), (5, .bipush 8, 2, 0, 0, .null, []), (7, .newarray .int, 2, 0, 0, .null, [130]), (9, .putfield 9, 3, 1, 0, .null, [91, 0]),
  (12, .aload_n 0, 1, 0, 0, .null, []), (13, .bipush 8, 2, 0, 0, .null, []), (15, .newarray .int, 2, 0, 0, .null, [130]), (17, .putfield 15, 3, 1, 1, .null, [93, 0]), (20, .aload_n 0, 1, 0, 0, .null, []), (21, .bipush 8, 2, 0, 0, .null, []),
  (23, .newarray .int, 2, 0, 0, .null, [130]), (25, .putfield 18, 3, 1, 2, .null, [95, 0]), (28, .aload_n 0, 1, 0, 0, .null, []), (29, .bipush 8, 2, 0, 0, .null, []), (31, .newarray .int, 2, 0, 0, .null, [130]), (33, .putfield 21, 3, 1, 3, .null, [98, 0]),
  (36, .aload_n 0, 1, 0, 0, .null, []), (37, .bipush 10, 2, 0, 0, .null, []), (39, .newarray .int, 2, 0, 0, .null, [130]), (41, .putfield 24, 3, 1, 4, .null, [100, 0]), (44, .aload_n 0, 1, 0, 0, .null, []), (45, .bipush 8, 2, 0, 0, .null, []),
  (47, .newarray .int, 2, 0, 0, .null, [130]), (49, .putfield 27, 3, 1, 5, .null, [103, 0]), (52, .aload_n 0, 1, 0, 0, .null, []), (53, .iconst 4, 1, 0, 0, .null, []), (54, .putfield 30, 3, 1, 6, .null, [104, 0]), (57, .aload_n 0, 1, 0, 0, .null, []),
  (58, .iconst 2, 1, 0, 0, .null, []), (59, .putfield 34, 3, 1, 7, .null, [106, 0]), (62, .aload_n 0, 1, 0, 0, .null, []), (63, .iconst 0, 1, 0, 0, .null, []), (64, .putfield 37, 3, 1, 8, .null, [108, 0]), (67, .iconst 0, 1, 0, 0, .null, []),
  (68, .istore_n 1, 1, 0, 0, .null, []), (69, .iload_n 1, 1, 0, 0, .null, []), (70, .bipush 8, 2, 0, 0, .null, []), (72, .if_icmp .ge 34, 3, 106, 0, .null, []), (75, .aload_n 0, 1, 0, 0, .null, []), (76, .getfield 9, 3, 1, 0, .null, [91, 0]),
  (79, .iload_n 1, 1, 0, 0, .null, []), (80, .iload_n 1, 1, 0, 0, .null, []), (81, .iconst 4, 1, 0, 0, .null, []), (82, .irem, 1, 0, 0, .null, []), (83, .iastore, 1, 0, 0, .null, []), (84, .aload_n 0, 1, 0, 0, .null, []),
  (85, .getfield 15, 3, 1, 1, .null, [93, 0]), (88, .iload_n 1, 1, 0, 0, .null, []), (89, .iload_n 1, 1, 0, 0, .null, []), (90, .iconst 4, 1, 0, 0, .null, []), (91, .idiv, 1, 0, 0, .null, []), (92, .iastore, 1, 0, 0, .null, []),
  (93, .aload_n 0, 1, 0, 0, .null, []), (94, .getfield 27, 3, 1, 5, .null, [103, 0]), (97, .iload_n 1, 1, 0, 0, .null, []), (98, .iconst 1, 1, 0, 0, .null, []), (99, .iastore, 1, 0, 0, .null, []), (100, .iinc 1 1, 3, 0, 0, .null, []),
  (103, .goto (-34), 3, 69, 0, .null, []), (106, .return_, 1, 0, 0, .null, [])]
/-- SmallerInTheShop$Layout copyLayout (LSmallerInTheShop$Layout;)V -/
def mp_22 : List (Nat × mm_I) := [(0, .iconst 0, 1, 0, 0, .null, []), (1, .istore_n 2, 1, 0, 0, .null, []), (2, .iload_n 2, 1, 0, 0, .null, []), (3, .bipush 8, 2, 0, 0, .null, []), (5, .if_icmp .ge 69, 3, 74, 0, .null, []), (8, .aload_n 0, 1, 0, 0, .null, []),
  (9, .getfield 9, 3, 1, 0, .null, [91, 0]), (12, .iload_n 2, 1, 0, 0, .null, []), (13, .aload_n 1, 1, 0, 0, .null, []), (14, .getfield 9, 3, 1, 0, .null, [91, 0]), (17, .iload_n 2, 1, 0, 0, .null, []), (18, .iaload, 1, 0, 0, .null, []),
  (19, .iastore, 1, 0, 0, .null, []), (20, .aload_n 0, 1, 0, 0, .null, []), (21, .getfield 15, 3, 1, 1, .null, [93, 0]), (24, .iload_n 2, 1, 0, 0, .null, []), (25, .aload_n 1, 1, 0, 0, .null, []), (26, .getfield 15, 3, 1, 1, .null, [93, 0]),
  (29, .iload_n 2, 1, 0, 0, .null, []), (30, .iaload, 1, 0, 0, .null, []), (31, .iastore, 1, 0, 0, .null, []), (32, .aload_n 0, 1, 0, 0, .null, []), (33, .getfield 18, 3, 1, 2, .null, [95, 0]), (36, .iload_n 2, 1, 0, 0, .null, []),
  (37, .aload_n 1, 1, 0, 0, .null, []), (38, .getfield 18, 3, 1, 2, .null, [95, 0]), (41, .iload_n 2, 1, 0, 0, .null, []), (42, .iaload, 1, 0, 0, .null, []), (43, .iastore, 1, 0, 0, .null, []), (44, .aload_n 0, 1, 0, 0, .null, []),
  (45, .getfield 21, 3, 1, 3, .null, [98, 0]), (48, .iload_n 2, 1, 0, 0, .null, []), (49, .aload_n 1, 1, 0, 0, .null, []), (50, .getfield 21, 3, 1, 3, .null, [98, 0]), (53, .iload_n 2, 1, 0, 0, .null, []), (54, .iaload, 1, 0, 0, .null, []),
  (55, .iastore, 1, 0, 0, .null, []), (56, .aload_n 0, 1, 0, 0, .null, []), (57, .getfield 27, 3, 1, 5, .null, [103, 0]), (60, .iload_n 2, 1, 0, 0, .null, []), (61, .aload_n 1, 1, 0, 0, .null, []), (62, .getfield 27, 3, 1, 5, .null, [103, 0]),
  (65, .iload_n 2, 1, 0, 0, .null, []), (66, .iaload, 1, 0, 0, .null, []), (67, .iastore, 1, 0, 0, .null, []), (68, .iinc 2 1, 3, 0, 0, .null, []), (71, .goto (-69), 3, 2, 0, .null, []), (74, .iconst 0, 1, 0, 0, .null, []),
  (75, .istore_n 2, 1, 0, 0, .null, []), (76, .iload_n 2, 1, 0, 0, .null, []), (77, .bipush 10, 2, 0, 0, .null, []), (79, .if_icmp .ge 21, 3, 100, 0, .null, []), (82, .aload_n 0, 1, 0, 0, .null, []), (83, .getfield 24, 3, 1, 4, .null, [100, 0]),
  (86, .iload_n 2, 1, 0, 0, .null, []), (87, .aload_n 1, 1, 0, 0, .null, []), (88, .getfield 24, 3, 1, 4, .null, [100, 0]), (91, .iload_n 2, 1, 0, 0, .null, []), (92, .iaload, 1, 0, 0, .null, []), (93, .iastore, 1, 0, 0, .null, []),
  (94, .iinc 2 1, 3, 0, 0, .null, []), (97, .goto (-21), 3, 76, 0, .null, []), (100, .aload_n 0, 1, 0, 0, .null, []), (101, .aload_n 1, 1, 0, 0, .null, []), (102, .getfield 30, 3, 1, 6, .null, [104, 0]), (105, .putfield 30, 3, 1, 6, .null, [104, 0]),
  (108, .aload_n 0, 1, 0, 0, .null, []), (109, .aload_n 1, 1, 0, 0, .null, []), (110, .getfield 34, 3, 1, 7, .null, [106, 0]), (113, .putfield 34, 3, 1, 7, .null, [106, 0]), (116, .aload_n 0, 1, 0, 0, .null, []), (117, .aload_n 1, 1, 0, 0, .null, []),
  (118, .getfield 37, 3, 1, 8, .null, [108, 0]), (121, .putfield 37, 3, 1, 8, .null, [108, 0]), (124, .return_, 1, 0, 0, .null, [])]
/-- SmallerInTheShop$Layout hasLine (I)Z -/
def mp_23 : List (Nat × mm_I) := [(0, .iload_n 1, 1, 0, 0, .null, []), (1, .iconst 4, 1, 0, 0, .null, []), (2, .if_icmp .ne 19, 3, 21, 0, .null, []), (5, .aload_n 0, 1, 0, 0, .null, []), (6, .getfield 34, 3, 1, 7, .null, [106, 0]), (9, .iconst 2, 1, 0, 0, .null, []),
  (10, .if_icmp .ne 7, 3, 17, 0, .null, []), (13, .iconst 1, 1, 0, 0, .null, []), (14, .goto 25, 3, 39, 0, .null, []), (17, .iconst 0, 1, 0, 0, .null, []), (18, .goto 21, 3, 39, 0, .null, []), (21, .iload_n 1, 1, 0, 0, .null, []),
  (22, .iconst 1, 1, 0, 0, .null, []), (23, .if_icmp .lt 15, 3, 38, 0, .null, []), (26, .iload_n 1, 1, 0, 0, .null, []), (27, .aload_n 0, 1, 0, 0, .null, []), (28, .getfield 30, 3, 1, 6, .null, [104, 0]), (31, .if_icmp .ge 7, 3, 38, 0, .null, []),
  (34, .iconst 1, 1, 0, 0, .null, []), (35, .goto 4, 3, 39, 0, .null, []), (38, .iconst 0, 1, 0, 0, .null, []), (39, .ireturn, 1, 0, 0, .null, [])]
/-- SmallerInTheShop$Layout becomeFolded (LSmallerInTheShop$Layout;II)V -/
def mp_24 : List (Nat × mm_I) := [(0, .iload_n 2, 1, 0, 0, .null, []), (1, .iconst 4, 1, 0, 0, .null, []), (2, .if_icmp .ne 7, 3, 9, 0, .null, []), (5, .iconst 1, 1, 0, 0, .null, []), (6, .goto 4, 3, 10, 0, .null, []), (9, .iconst 0, 1, 0, 0, .null, []),
  (10, .istore 4, 2, 0, 0, .null, []), (12, .iload 4, 2, 0, 0, .null, []), (14, .ifCond .eq 7, 3, 21, 0, .null, []), (17, .iconst 1, 1, 0, 0, .null, []), (18, .goto 4, 3, 22, 0, .null, []), (21, .iload_n 2, 1, 0, 0, .null, []),
  (22, .istore 5, 2, 0, 0, .null, []), (24, .iload_n 3, 1, 0, 0, .null, []), (25, .iconst 2, 1, 0, 0, .null, []), (26, .irem, 1, 0, 0, .null, []), (27, .ifCond .ne 7, 3, 34, 0, .null, []), (30, .iconst 1, 1, 0, 0, .null, []),
  (31, .goto 4, 3, 35, 0, .null, []), (34, .iconst 0, 1, 0, 0, .null, []), (35, .istore 6, 2, 0, 0, .null, []), (37, .aload_n 0, 1, 0, 0, .null, []), (38, .aload_n 1, 1, 0, 0, .null, []), (39, .iload 4, 2, 0, 0, .null, []),
  (41, .iload 5, 2, 0, 0, .null, []), (43, .iload_n 3, 1, 0, 0, .null, []), (44, .iconst 2, 1, 0, 0, .null, []), (45, .if_icmp .ge 7, 3, 52, 0, .null, []), (48, .iconst 1, 1, 0, 0, .null, []), (49, .goto 4, 3, 53, 0, .null, []),
  (52, .iconst 0, 1, 0, 0, .null, []), (53, .iload 6, 2, 0, 0, .null, []), (55, .invokevirtual 57, 3, 25, 6, .null, [475, 0, 477, 57, 6]), (58, .aload_n 0, 1, 0, 0, .null, []), (59, .iload 4, 2, 0, 0, .null, []), (61, .ifCond .eq 10, 3, 71, 0, .null, []),
  (64, .aload_n 1, 1, 0, 0, .null, []), (65, .getfield 30, 3, 1, 6, .null, [104, 0]), (68, .goto 15, 3, 83, 0, .null, []), (71, .iload 5, 2, 0, 0, .null, []), (73, .aload_n 1, 1, 0, 0, .null, []), (74, .getfield 30, 3, 1, 6, .null, [104, 0]),
  (77, .iload 5, 2, 0, 0, .null, []), (79, .isub, 1, 0, 0, .null, []), (80, .invokestatic 51, 3, 997, 2, .null, [485, 0, 363, 66, 364]), (83, .putfield 30, 3, 1, 6, .null, [104, 0]), (86, .aload_n 0, 1, 0, 0, .null, []), (87, .iload 4, 2, 0, 0, .null, []),
  (89, .ifCond .eq 7, 3, 96, 0, .null, []), (92, .iconst 1, 1, 0, 0, .null, []), (93, .goto 7, 3, 100, 0, .null, []), (96, .aload_n 1, 1, 0, 0, .null, []), (97, .getfield 34, 3, 1, 7, .null, [106, 0]), (100, .putfield 34, 3, 1, 7, .null, [106, 0]),
  (103, .aload_n 0, 1, 0, 0, .null, []), (104, .invokevirtual 61, 3, 27, 1, .null, [486, 0, 488, 57, 8]), (107, .aload_n 0, 1, 0, 0, .null, []), (108, .aload_n 1, 1, 0, 0, .null, []), (109, .iload 4, 2, 0, 0, .null, []), (111, .iload 5, 2, 0, 0, .null, []),
  (113, .iload 6, 2, 0, 0, .null, []), (115, .invokevirtual 64, 3, 29, 5, .null, [494, 0, 496, 57, 10]), (118, .return_, 1, 0, 0, .null, [])]
/-- SmallerInTheShop$Layout movePanels (LSmallerInTheShop$Layout;ZIZZ)V -/
def mp_25 : List (Nat × mm_I) := [(0, .iload_n 2, 1, 0, 0, .null, []), (1, .ifCond .eq 10, 3, 11, 0, .null, []), (4, .aload_n 1, 1, 0, 0, .null, []), (5, .getfield 34, 3, 1, 7, .null, [106, 0]), (8, .goto 7, 3, 15, 0, .null, []), (11, .aload_n 1, 1, 0, 0, .null, []),
  (12, .getfield 30, 3, 1, 6, .null, [104, 0]), (15, .istore 6, 2, 0, 0, .null, []), (17, .iload 4, 2, 0, 0, .null, []), (19, .ifCond .eq 7, 3, 26, 0, .null, []), (22, .iload_n 3, 1, 0, 0, .null, []), (23, .goto 13, 3, 36, 0, .null, []),
  (26, .iconst 0, 1, 0, 0, .null, []), (27, .iconst 2, 1, 0, 0, .null, []), (28, .iload_n 3, 1, 0, 0, .null, []), (29, .imul, 1, 0, 0, .null, []), (30, .iload 6, 2, 0, 0, .null, []), (32, .isub, 1, 0, 0, .null, []),
  (33, .invokestatic 68, 3, 998, 2, .null, [479, 0, 366, 66, 367]), (36, .istore 7, 2, 0, 0, .null, []), (38, .iconst 0, 1, 0, 0, .null, []), (39, .istore 8, 2, 0, 0, .null, []), (41, .iload 8, 2, 0, 0, .null, []), (43, .bipush 8, 2, 0, 0, .null, []),
  (45, .if_icmp .ge 273, 3, 318, 0, .null, []), (48, .iload_n 2, 1, 0, 0, .null, []), (49, .ifCond .eq 13, 3, 62, 0, .null, []), (52, .aload_n 1, 1, 0, 0, .null, []), (53, .getfield 15, 3, 1, 1, .null, [93, 0]), (56, .iload 8, 2, 0, 0, .null, []),
  (58, .iaload, 1, 0, 0, .null, []), (59, .goto 10, 3, 69, 0, .null, []), (62, .aload_n 1, 1, 0, 0, .null, []), (63, .getfield 9, 3, 1, 0, .null, [91, 0]), (66, .iload 8, 2, 0, 0, .null, []), (68, .iaload, 1, 0, 0, .null, []),
  (69, .istore 9, 2, 0, 0, .null, []), (71, .iconst 2, 1, 0, 0, .null, []), (72, .iload_n 3, 1, 0, 0, .null, []), (73, .imul, 1, 0, 0, .null, []), (74, .iconst 1, 1, 0, 0, .null, []), (75, .isub, 1, 0, 0, .null, []),
  (76, .iload 9, 2, 0, 0, .null, []), (78, .isub, 1, 0, 0, .null, []), (79, .istore 10, 2, 0, 0, .null, []), (81, .iload_n 2, 1, 0, 0, .null, []), (82, .ifCond .eq 13, 3, 95, 0, .null, []), (85, .aload_n 1, 1, 0, 0, .null, []),
  (86, .getfield 9, 3, 1, 0, .null, [91, 0]), (89, .iload 8, 2, 0, 0, .null, []), (91, .iaload, 1, 0, 0, .null, []), (92, .goto 10, 3, 102, 0, .null, []), (95, .aload_n 1, 1, 0, 0, .null, []), (96, .getfield 15, 3, 1, 1, .null, [93, 0]),
  (99, .iload 8, 2, 0, 0, .null, []), (101, .iaload, 1, 0, 0, .null, []), (102, .istore 11, 2, 0, 0, .null, []), (104, .iload 10, 2, 0, 0, .null, []), (106, .iload 6, 2, 0, 0, .null, []), (108, .invokestatic 71, 3, 89, 2, .null, [480, 1, 445, 55]),
  (111, .ifCond .eq 15, 3, 126, 0, .null, []), (114, .aload_n 1, 1, 0, 0, .null, []), (115, .iload_n 2, 1, 0, 0, .null, []), (116, .iload 10, 2, 0, 0, .null, []), (118, .iload 11, 2, 0, 0, .null, []), (120, .invokevirtual 75, 3, 26, 4, .null, [481, 0, 483, 57, 7]),
  (123, .goto 4, 3, 127, 0, .null, []), (126, .iconst 0, 1, 0, 0, .null, []), (127, .istore 12, 2, 0, 0, .null, []), (129, .iload 9, 2, 0, 0, .null, []), (131, .iload_n 3, 1, 0, 0, .null, []), (132, .if_icmp .ge 7, 3, 139, 0, .null, []),
  (135, .iconst 1, 1, 0, 0, .null, []), (136, .goto 4, 3, 140, 0, .null, []), (139, .iconst 0, 1, 0, 0, .null, []), (140, .iload 4, 2, 0, 0, .null, []), (142, .if_icmp .ne 7, 3, 149, 0, .null, []), (145, .iconst 1, 1, 0, 0, .null, []),
  (146, .goto 4, 3, 150, 0, .null, []), (149, .iconst 0, 1, 0, 0, .null, []), (150, .istore 13, 2, 0, 0, .null, []), (152, .iload 13, 2, 0, 0, .null, []), (154, .ifCond .eq 48, 3, 202, 0, .null, []), (157, .aload_n 1, 1, 0, 0, .null, []),
  (158, .iload_n 2, 1, 0, 0, .null, []), (159, .iload 9, 2, 0, 0, .null, []), (161, .iload 11, 2, 0, 0, .null, []), (163, .invokevirtual 75, 3, 26, 4, .null, [481, 0, 483, 57, 7]), (166, .iconst 1, 1, 0, 0, .null, []), (167, .isub, 1, 0, 0, .null, []),
  (168, .aload_n 1, 1, 0, 0, .null, []), (169, .getfield 18, 3, 1, 2, .null, [95, 0]), (172, .iload 8, 2, 0, 0, .null, []), (174, .iaload, 1, 0, 0, .null, []), (175, .isub, 1, 0, 0, .null, []), (176, .istore 14, 2, 0, 0, .null, []),
  (178, .aload_n 0, 1, 0, 0, .null, []), (179, .getfield 18, 3, 1, 2, .null, [95, 0]), (182, .iload 8, 2, 0, 0, .null, []), (184, .iload 14, 2, 0, 0, .null, []), (186, .iload 5, 2, 0, 0, .null, []), (188, .ifCond .eq 8, 3, 196, 0, .null, []),
  (191, .iload 12, 2, 0, 0, .null, []), (193, .goto 4, 3, 197, 0, .null, []), (196, .iconst 0, 1, 0, 0, .null, []), (197, .iadd, 1, 0, 0, .null, []), (198, .iastore, 1, 0, 0, .null, []), (199, .goto 29, 3, 228, 0, .null, []),
  (202, .aload_n 0, 1, 0, 0, .null, []), (203, .getfield 18, 3, 1, 2, .null, [95, 0]), (206, .iload 8, 2, 0, 0, .null, []), (208, .aload_n 1, 1, 0, 0, .null, []), (209, .getfield 18, 3, 1, 2, .null, [95, 0]), (212, .iload 8, 2, 0, 0, .null, []),
  (214, .iaload, 1, 0, 0, .null, []), (215, .iload 5, 2, 0, 0, .null, []), (217, .ifCond .eq 7, 3, 224, 0, .null, []), (220, .iconst 0, 1, 0, 0, .null, []), (221, .goto 5, 3, 226, 0, .null, []), (224, .iload 12, 2, 0, 0, .null, []),
  (226, .iadd, 1, 0, 0, .null, []), (227, .iastore, 1, 0, 0, .null, []), (228, .aload_n 0, 1, 0, 0, .null, []), (229, .getfield 21, 3, 1, 3, .null, [98, 0]), (232, .iload 8, 2, 0, 0, .null, []), (234, .iload 13, 2, 0, 0, .null, []),
  (236, .ifCond .eq 15, 3, 251, 0, .null, []), (239, .iconst 1, 1, 0, 0, .null, []), (240, .aload_n 1, 1, 0, 0, .null, []), (241, .getfield 21, 3, 1, 3, .null, [98, 0]), (244, .iload 8, 2, 0, 0, .null, []), (246, .iaload, 1, 0, 0, .null, []),
  (247, .isub, 1, 0, 0, .null, []), (248, .goto 10, 3, 258, 0, .null, []), (251, .aload_n 1, 1, 0, 0, .null, []), (252, .getfield 21, 3, 1, 3, .null, [98, 0]), (255, .iload 8, 2, 0, 0, .null, []), (257, .iaload, 1, 0, 0, .null, []),
  (258, .iastore, 1, 0, 0, .null, []), (259, .iload 13, 2, 0, 0, .null, []), (261, .ifCond .eq 8, 3, 269, 0, .null, []), (264, .iload 10, 2, 0, 0, .null, []), (266, .goto 5, 3, 271, 0, .null, []), (269, .iload 9, 2, 0, 0, .null, []),
  (271, .iload 7, 2, 0, 0, .null, []), (273, .isub, 1, 0, 0, .null, []), (274, .istore 14, 2, 0, 0, .null, []), (276, .aload_n 0, 1, 0, 0, .null, []), (277, .getfield 9, 3, 1, 0, .null, [91, 0]), (280, .iload 8, 2, 0, 0, .null, []),
  (282, .iload_n 2, 1, 0, 0, .null, []), (283, .ifCond .eq 8, 3, 291, 0, .null, []), (286, .iload 11, 2, 0, 0, .null, []), (288, .goto 5, 3, 293, 0, .null, []), (291, .iload 14, 2, 0, 0, .null, []), (293, .iastore, 1, 0, 0, .null, []),
  (294, .aload_n 0, 1, 0, 0, .null, []), (295, .getfield 15, 3, 1, 1, .null, [93, 0]), (298, .iload 8, 2, 0, 0, .null, []), (300, .iload_n 2, 1, 0, 0, .null, []), (301, .ifCond .eq 8, 3, 309, 0, .null, []), (304, .iload 14, 2, 0, 0, .null, []),
  (306, .goto 5, 3, 311, 0, .null, []), (309, .iload 11, 2, 0, 0, .null, []), (311, .iastore, 1, 0, 0, .null, []), (312, .iinc 8 1, 3, 0, 0, .null, []), (315, .goto (-274), 3, 41, 0, .null, []), (318, .return_, 1, 0, 0, .null, [])]
/-- SmallerInTheShop$Layout heapAt (ZII)I -/
def mp_26 : List (Nat × mm_I) := [(0, .aload_n 0, 1, 0, 0, .null, []), (1, .getfield 27, 3, 1, 5, .null, [103, 0]), (4, .iload_n 1, 1, 0, 0, .null, []), (5, .ifCond .eq 11, 3, 16, 0, .null, []), (8, .iconst 4, 1, 0, 0, .null, []), (9, .iload_n 2, 1, 0, 0, .null, []),
  (10, .imul, 1, 0, 0, .null, []), (11, .iload_n 3, 1, 0, 0, .null, []), (12, .iadd, 1, 0, 0, .null, []), (13, .goto 8, 3, 21, 0, .null, []), (16, .iconst 4, 1, 0, 0, .null, []), (17, .iload_n 3, 1, 0, 0, .null, []),
  (18, .imul, 1, 0, 0, .null, []), (19, .iload_n 2, 1, 0, 0, .null, []), (20, .iadd, 1, 0, 0, .null, []), (21, .iaload, 1, 0, 0, .null, []), (22, .ireturn, 1, 0, 0, .null, [])]
/-- SmallerInTheShop$Layout countHeaps ()V -/
def mp_27 : List (Nat × mm_I) := [(0, .iconst 0, 1, 0, 0, .null, []), (1, .istore_n 1, 1, 0, 0, .null, []), (2, .iload_n 1, 1, 0, 0, .null, []), (3, .bipush 8, 2, 0, 0, .null, []), (5, .if_icmp .ge 16, 3, 21, 0, .null, []), (8, .aload_n 0, 1, 0, 0, .null, []),
  (9, .getfield 27, 3, 1, 5, .null, [103, 0]), (12, .iload_n 1, 1, 0, 0, .null, []), (13, .iconst 0, 1, 0, 0, .null, []), (14, .iastore, 1, 0, 0, .null, []), (15, .iinc 1 1, 3, 0, 0, .null, []), (18, .goto (-16), 3, 2, 0, .null, []),
  (21, .iconst 0, 1, 0, 0, .null, []), (22, .istore_n 1, 1, 0, 0, .null, []), (23, .iload_n 1, 1, 0, 0, .null, []), (24, .bipush 8, 2, 0, 0, .null, []), (26, .if_icmp .ge 23, 3, 49, 0, .null, []), (29, .aload_n 0, 1, 0, 0, .null, []),
  (30, .getfield 27, 3, 1, 5, .null, [103, 0]), (33, .aload_n 0, 1, 0, 0, .null, []), (34, .iload_n 1, 1, 0, 0, .null, []), (35, .invokevirtual 40, 3, 28, 2, .null, [490, 0, 492, 57, 9]), (38, .dup2, 1, 0, 0, .null, []), (39, .iaload, 1, 0, 0, .null, []),
  (40, .iconst 1, 1, 0, 0, .null, []), (41, .iadd, 1, 0, 0, .null, []), (42, .iastore, 1, 0, 0, .null, []), (43, .iinc 1 1, 3, 0, 0, .null, []), (46, .goto (-23), 3, 23, 0, .null, []), (49, .return_, 1, 0, 0, .null, [])]
/-- SmallerInTheShop$Layout cellOf (I)I -/
def mp_28 : List (Nat × mm_I) := [(0, .iconst 4, 1, 0, 0, .null, []), (1, .aload_n 0, 1, 0, 0, .null, []), (2, .getfield 15, 3, 1, 1, .null, [93, 0]), (5, .iload_n 1, 1, 0, 0, .null, []), (6, .iaload, 1, 0, 0, .null, []), (7, .imul, 1, 0, 0, .null, []),
  (8, .aload_n 0, 1, 0, 0, .null, []), (9, .getfield 9, 3, 1, 0, .null, [91, 0]), (12, .iload_n 1, 1, 0, 0, .null, []), (13, .iaload, 1, 0, 0, .null, []), (14, .iadd, 1, 0, 0, .null, []), (15, .ireturn, 1, 0, 0, .null, [])]
/-- SmallerInTheShop$Layout foldCreases (LSmallerInTheShop$Layout;ZIZ)V -/
def mp_29 : List (Nat × mm_I) := [(0, .aload_n 0, 1, 0, 0, .null, []), (1, .iconst 0, 1, 0, 0, .null, []), (2, .putfield 37, 3, 1, 8, .null, [108, 0]), (5, .iconst 0, 1, 0, 0, .null, []), (6, .istore 5, 2, 0, 0, .null, []), (8, .iload 5, 2, 0, 0, .null, []),
  (10, .bipush 10, 2, 0, 0, .null, []), (12, .if_icmp .ge 97, 3, 109, 0, .null, []), (15, .aload_n 0, 1, 0, 0, .null, []), (16, .getfield 24, 3, 1, 4, .null, [100, 0]), (19, .iload 5, 2, 0, 0, .null, []), (21, .aload_n 1, 1, 0, 0, .null, []),
  (22, .getfield 24, 3, 1, 4, .null, [100, 0]), (25, .iload 5, 2, 0, 0, .null, []), (27, .iaload, 1, 0, 0, .null, []), (28, .iastore, 1, 0, 0, .null, []), (29, .aload_n 0, 1, 0, 0, .null, []), (30, .getfield 24, 3, 1, 4, .null, [100, 0]),
  (33, .iload 5, 2, 0, 0, .null, []), (35, .iaload, 1, 0, 0, .null, []), (36, .ifCond .ne 67, 3, 103, 0, .null, []), (39, .aload_n 1, 1, 0, 0, .null, []), (40, .iload 5, 2, 0, 0, .null, []), (42, .iload_n 2, 1, 0, 0, .null, []),
  (43, .iload_n 3, 1, 0, 0, .null, []), (44, .invokevirtual 79, 3, 30, 4, .null, [498, 0, 500, 57, 11]), (47, .ifCond .eq 56, 3, 103, 0, .null, []), (50, .aload_n 1, 1, 0, 0, .null, []), (51, .getfield 21, 3, 1, 3, .null, [98, 0]), (54, .getstatic 83, 3, 0, 0, .retAddr 1, [502, 1, 0]),
  (57, .iload 5, 2, 0, 0, .null, []), (59, .iaload, 1, 0, 0, .null, []), (60, .iaload, 1, 0, 0, .null, []), (61, .ifCond .ne 7, 3, 68, 0, .null, []), (64, .iconst 1, 1, 0, 0, .null, []), (65, .goto 4, 3, 69, 0, .null, []),
  (68, .iconst 0, 1, 0, 0, .null, []), (69, .istore 6, 2, 0, 0, .null, []), (71, .aload_n 0, 1, 0, 0, .null, []), (72, .getfield 24, 3, 1, 4, .null, [100, 0]), (75, .iload 5, 2, 0, 0, .null, []), (77, .iload 6, 2, 0, 0, .null, []),
  (79, .iload 4, 2, 0, 0, .null, []), (81, .if_icmp .ne 7, 3, 88, 0, .null, []), (84, .iconst 2, 1, 0, 0, .null, []), (85, .goto 4, 3, 89, 0, .null, []), (88, .iconst 1, 1, 0, 0, .null, []), (89, .iastore, 1, 0, 0, .null, []),
  (90, .aload_n 0, 1, 0, 0, .null, []), (91, .dup, 1, 0, 0, .null, []), (92, .getfield 37, 3, 1, 8, .null, [108, 0]), (95, .iconst 1, 1, 0, 0, .null, []), (96, .iload 5, 2, 0, 0, .null, []), (98, .ishl, 1, 0, 0, .null, []),
  (99, .ior, 1, 0, 0, .null, []), (100, .putfield 37, 3, 1, 8, .null, [108, 0]), (103, .iinc 5 1, 3, 0, 0, .null, []), (106, .goto (-98), 3, 8, 0, .null, []), (109, .return_, 1, 0, 0, .null, [])]
/-- SmallerInTheShop$Layout liesAcross (IZI)Z -/
def mp_30 : List (Nat × mm_I) := [(0, .getstatic 83, 3, 0, 0, .retAddr 1, [502, 1, 0]), (3, .iload_n 1, 1, 0, 0, .null, []), (4, .iaload, 1, 0, 0, .null, []), (5, .istore 4, 2, 0, 0, .null, []), (7, .getstatic 86, 3, 0, 0, .retAddr 2, [504, 1, 1]), (10, .iload_n 1, 1, 0, 0, .null, []),
  (11, .iaload, 1, 0, 0, .null, []), (12, .istore 5, 2, 0, 0, .null, []), (14, .iload_n 2, 1, 0, 0, .null, []), (15, .ifCond .eq 10, 3, 25, 0, .null, []), (18, .aload_n 0, 1, 0, 0, .null, []), (19, .getfield 15, 3, 1, 1, .null, [93, 0]),
  (22, .goto 7, 3, 29, 0, .null, []), (25, .aload_n 0, 1, 0, 0, .null, []), (26, .getfield 9, 3, 1, 0, .null, [91, 0]), (29, .astore 6, 2, 0, 0, .null, []), (31, .iload_n 2, 1, 0, 0, .null, []), (32, .ifCond .eq 10, 3, 42, 0, .null, []),
  (35, .aload_n 0, 1, 0, 0, .null, []), (36, .getfield 9, 3, 1, 0, .null, [91, 0]), (39, .goto 7, 3, 46, 0, .null, []), (42, .aload_n 0, 1, 0, 0, .null, []), (43, .getfield 15, 3, 1, 1, .null, [93, 0]), (46, .astore 7, 2, 0, 0, .null, []),
  (48, .aload 7, 2, 0, 0, .null, []), (50, .iload 4, 2, 0, 0, .null, []), (52, .iaload, 1, 0, 0, .null, []), (53, .aload 7, 2, 0, 0, .null, []), (55, .iload 5, 2, 0, 0, .null, []), (57, .iaload, 1, 0, 0, .null, []),
  (58, .if_icmp .ne 43, 3, 101, 0, .null, []), (61, .aload 6, 2, 0, 0, .null, []), (63, .iload 4, 2, 0, 0, .null, []), (65, .iaload, 1, 0, 0, .null, []), (66, .aload 6, 2, 0, 0, .null, []), (68, .iload 5, 2, 0, 0, .null, []),
  (70, .iaload, 1, 0, 0, .null, []), (71, .invokestatic 68, 3, 998, 2, .null, [479, 0, 366, 66, 367]), (74, .iload_n 3, 1, 0, 0, .null, []), (75, .iconst 1, 1, 0, 0, .null, []), (76, .isub, 1, 0, 0, .null, []), (77, .if_icmp .ne 24, 3, 101, 0, .null, []),
  (80, .aload 6, 2, 0, 0, .null, []), (82, .iload 4, 2, 0, 0, .null, []), (84, .iaload, 1, 0, 0, .null, []), (85, .aload 6, 2, 0, 0, .null, []), (87, .iload 5, 2, 0, 0, .null, []), (89, .iaload, 1, 0, 0, .null, []),
  (90, .invokestatic 51, 3, 997, 2, .null, [485, 0, 363, 66, 364]), (93, .iload_n 3, 1, 0, 0, .null, []), (94, .if_icmp .ne 7, 3, 101, 0, .null, []), (97, .iconst 1, 1, 0, 0, .null, []), (98, .goto 4, 3, 102, 0, .null, []), (101, .iconst 0, 1, 0, 0, .null, []),
  (102, .ireturn, 1, 0, 0, .null, [])]
/-- SmallerInTheShop$Layout isRead (I)Z -/
def mp_31 : List (Nat × mm_I) := [(0, .aload_n 0, 1, 0, 0, .null, []), (1, .getfield 21, 3, 1, 3, .null, [98, 0]), (4, .iload_n 1, 1, 0, 0, .null, []), (5, .iaload, 1, 0, 0, .null, []), (6, .ifCond .ne 19, 3, 25, 0, .null, []), (9, .aload_n 0, 1, 0, 0, .null, []),
  (10, .iload_n 1, 1, 0, 0, .null, []), (11, .invokevirtual 44, 3, 32, 2, .null, [566, 0, 567, 57, 568]), (14, .ifCond .ne 7, 3, 21, 0, .null, []), (17, .iconst 1, 1, 0, 0, .null, []), (18, .goto 21, 3, 39, 0, .null, []), (21, .iconst 0, 1, 0, 0, .null, []),
  (22, .goto 17, 3, 39, 0, .null, []), (25, .aload_n 0, 1, 0, 0, .null, []), (26, .getfield 18, 3, 1, 2, .null, [95, 0]), (29, .iload_n 1, 1, 0, 0, .null, []), (30, .iaload, 1, 0, 0, .null, []), (31, .ifCond .ne 7, 3, 38, 0, .null, []),
  (34, .iconst 1, 1, 0, 0, .null, []), (35, .goto 4, 3, 39, 0, .null, []), (38, .iconst 0, 1, 0, 0, .null, []), (39, .ireturn, 1, 0, 0, .null, [])]
/-- SmallerInTheShop$Layout countAbove (I)I -/
def mp_32 : List (Nat × mm_I) := [(0, .aload_n 0, 1, 0, 0, .null, []), (1, .getfield 27, 3, 1, 5, .null, [103, 0]), (4, .aload_n 0, 1, 0, 0, .null, []), (5, .iload_n 1, 1, 0, 0, .null, []), (6, .invokevirtual 40, 3, 28, 2, .null, [490, 0, 492, 57, 9]), (9, .iaload, 1, 0, 0, .null, []),
  (10, .iconst 1, 1, 0, 0, .null, []), (11, .isub, 1, 0, 0, .null, []), (12, .aload_n 0, 1, 0, 0, .null, []), (13, .getfield 18, 3, 1, 2, .null, [95, 0]), (16, .iload_n 1, 1, 0, 0, .null, []), (17, .iaload, 1, 0, 0, .null, []),
  (18, .isub, 1, 0, 0, .null, []), (19, .ireturn, 1, 0, 0, .null, [])]
/-- SmallerInTheShop$Layout liesAbove (II)Z -/
def mp_33 : List (Nat × mm_I) := [(0, .aload_n 0, 1, 0, 0, .null, []), (1, .iload_n 1, 1, 0, 0, .null, []), (2, .invokevirtual 40, 3, 28, 2, .null, [490, 0, 492, 57, 9]), (5, .aload_n 0, 1, 0, 0, .null, []), (6, .iload_n 2, 1, 0, 0, .null, []), (7, .invokevirtual 40, 3, 28, 2, .null, [490, 0, 492, 57, 9]),
  (10, .if_icmp .ne 22, 3, 32, 0, .null, []), (13, .aload_n 0, 1, 0, 0, .null, []), (14, .getfield 18, 3, 1, 2, .null, [95, 0]), (17, .iload_n 1, 1, 0, 0, .null, []), (18, .iaload, 1, 0, 0, .null, []), (19, .aload_n 0, 1, 0, 0, .null, []),
  (20, .getfield 18, 3, 1, 2, .null, [95, 0]), (23, .iload_n 2, 1, 0, 0, .null, []), (24, .iaload, 1, 0, 0, .null, []), (25, .if_icmp .le 7, 3, 32, 0, .null, []), (28, .iconst 1, 1, 0, 0, .null, []), (29, .goto 4, 3, 33, 0, .null, []),
  (32, .iconst 0, 1, 0, 0, .null, []), (33, .ireturn, 1, 0, 0, .null, [])]
/-- SmallerInTheShop$Layout thickness ()I -/
def mp_34 : List (Nat × mm_I) := [(0, .iconst 0, 1, 0, 0, .null, []), (1, .istore_n 1, 1, 0, 0, .null, []), (2, .iconst 0, 1, 0, 0, .null, []), (3, .istore_n 2, 1, 0, 0, .null, []), (4, .iload_n 2, 1, 0, 0, .null, []), (5, .bipush 8, 2, 0, 0, .null, []),
  (7, .if_icmp .ge 20, 3, 27, 0, .null, []), (10, .iload_n 1, 1, 0, 0, .null, []), (11, .aload_n 0, 1, 0, 0, .null, []), (12, .getfield 27, 3, 1, 5, .null, [103, 0]), (15, .iload_n 2, 1, 0, 0, .null, []), (16, .iaload, 1, 0, 0, .null, []),
  (17, .invokestatic 51, 3, 997, 2, .null, [485, 0, 363, 66, 364]), (20, .istore_n 1, 1, 0, 0, .null, []), (21, .iinc 2 1, 3, 0, 0, .null, []), (24, .goto (-20), 3, 4, 0, .null, []), (27, .iload_n 1, 1, 0, 0, .null, []), (28, .ireturn, 1, 0, 0, .null, [])]
/-- SmallerInTheShop$Layout readPanels ()I -/
def mp_35 : List (Nat × mm_I) := [(0, .iconst 0, 1, 0, 0, .null, []), (1, .istore_n 1, 1, 0, 0, .null, []), (2, .iconst 0, 1, 0, 0, .null, []), (3, .istore_n 2, 1, 0, 0, .null, []), (4, .iload_n 2, 1, 0, 0, .null, []), (5, .bipush 8, 2, 0, 0, .null, []),
  (7, .if_icmp .ge 23, 3, 30, 0, .null, []), (10, .aload_n 0, 1, 0, 0, .null, []), (11, .iload_n 2, 1, 0, 0, .null, []), (12, .invokevirtual 47, 3, 31, 2, .null, [630, 0, 563, 57, 564]), (15, .ifCond .eq 9, 3, 24, 0, .null, []), (18, .iload_n 1, 1, 0, 0, .null, []),
  (19, .iconst 1, 1, 0, 0, .null, []), (20, .iload_n 2, 1, 0, 0, .null, []), (21, .ishl, 1, 0, 0, .null, []), (22, .ior, 1, 0, 0, .null, []), (23, .istore_n 1, 1, 0, 0, .null, []), (24, .iinc 2 1, 3, 0, 0, .null, []),
  (27, .goto (-23), 3, 4, 0, .null, []), (30, .iload_n 1, 1, 0, 0, .null, []), (31, .ireturn, 1, 0, 0, .null, [])]
/-- SmallerInTheShop$Layout showsBack (I)Z -/
def mp_36 : List (Nat × mm_I) := [(0, .aload_n 0, 1, 0, 0, .null, []), (1, .getfield 21, 3, 1, 3, .null, [98, 0]), (4, .iload_n 1, 1, 0, 0, .null, []), (5, .iaload, 1, 0, 0, .null, []), (6, .ifCond .ne 20, 3, 26, 0, .null, []), (9, .aload_n 0, 1, 0, 0, .null, []),
  (10, .getfield 18, 3, 1, 2, .null, [95, 0]), (13, .iload_n 1, 1, 0, 0, .null, []), (14, .iaload, 1, 0, 0, .null, []), (15, .ifCond .ne 7, 3, 22, 0, .null, []), (18, .iconst 1, 1, 0, 0, .null, []), (19, .goto 20, 3, 39, 0, .null, []),
  (22, .iconst 0, 1, 0, 0, .null, []), (23, .goto 16, 3, 39, 0, .null, []), (26, .aload_n 0, 1, 0, 0, .null, []), (27, .iload_n 1, 1, 0, 0, .null, []), (28, .invokevirtual 44, 3, 32, 2, .null, [566, 0, 567, 57, 568]), (31, .ifCond .ne 7, 3, 38, 0, .null, []),
  (34, .iconst 1, 1, 0, 0, .null, []), (35, .goto 4, 3, 39, 0, .null, []), (38, .iconst 0, 1, 0, 0, .null, []), (39, .ireturn, 1, 0, 0, .null, [])]
/-- SmallerInTheShop$Layout foldedCreases ()I -/
def mp_37 : List (Nat × mm_I) := [(0, .iconst 0, 1, 0, 0, .null, []), (1, .istore_n 1, 1, 0, 0, .null, []), (2, .iconst 0, 1, 0, 0, .null, []), (3, .istore_n 2, 1, 0, 0, .null, []), (4, .iload_n 2, 1, 0, 0, .null, []), (5, .bipush 10, 2, 0, 0, .null, []),
  (7, .if_icmp .ge 24, 3, 31, 0, .null, []), (10, .aload_n 0, 1, 0, 0, .null, []), (11, .getfield 24, 3, 1, 4, .null, [100, 0]), (14, .iload_n 2, 1, 0, 0, .null, []), (15, .iaload, 1, 0, 0, .null, []), (16, .ifCond .eq 9, 3, 25, 0, .null, []),
  (19, .iload_n 1, 1, 0, 0, .null, []), (20, .iconst 1, 1, 0, 0, .null, []), (21, .iload_n 2, 1, 0, 0, .null, []), (22, .ishl, 1, 0, 0, .null, []), (23, .ior, 1, 0, 0, .null, []), (24, .istore_n 1, 1, 0, 0, .null, []),
  (25, .iinc 2 1, 3, 0, 0, .null, []), (28, .goto (-24), 3, 4, 0, .null, []), (31, .iload_n 1, 1, 0, 0, .null, []), (32, .ireturn, 1, 0, 0, .null, [])]
/-- SmallerInTheShop$Layout cells ()I -/
def mp_38 : List (Nat × mm_I) := [(0, .aload_n 0, 1, 0, 0, .null, []), (1, .getfield 30, 3, 1, 6, .null, [104, 0]), (4, .aload_n 0, 1, 0, 0, .null, []), (5, .getfield 34, 3, 1, 7, .null, [106, 0]), (8, .imul, 1, 0, 0, .null, []), (9, .ireturn, 1, 0, 0, .null, [])]
/-- SmallerInTheShop$Layout isShut ()Z -/
def mp_39 : List (Nat × mm_I) := [(0, .aload_n 0, 1, 0, 0, .null, []), (1, .getfield 30, 3, 1, 6, .null, [104, 0]), (4, .iconst 1, 1, 0, 0, .null, []), (5, .if_icmp .ne 15, 3, 20, 0, .null, []), (8, .aload_n 0, 1, 0, 0, .null, []), (9, .getfield 34, 3, 1, 7, .null, [106, 0]),
  (12, .iconst 1, 1, 0, 0, .null, []), (13, .if_icmp .ne 7, 3, 20, 0, .null, []), (16, .iconst 1, 1, 0, 0, .null, []), (17, .goto 4, 3, 21, 0, .null, []), (20, .iconst 0, 1, 0, 0, .null, []), (21, .ireturn, 1, 0, 0, .null, [])]
/-- SmallerInTheShop$Layout countLines ()I -/
def mp_40 : List (Nat × mm_I) := [(0, .aload_n 0, 1, 0, 0, .null, []), (1, .getfield 30, 3, 1, 6, .null, [104, 0]), (4, .iconst 1, 1, 0, 0, .null, []), (5, .isub, 1, 0, 0, .null, []), (6, .aload_n 0, 1, 0, 0, .null, []), (7, .getfield 34, 3, 1, 7, .null, [106, 0]),
  (10, .iadd, 1, 0, 0, .null, []), (11, .iconst 1, 1, 0, 0, .null, []), (12, .isub, 1, 0, 0, .null, []), (13, .ireturn, 1, 0, 0, .null, [])]
/-- SmallerInTheShop$Layout lineOfNumber (I)I -/
def mp_41 : List (Nat × mm_I) := [(0, .iload_n 1, 1, 0, 0, .null, []), (1, .aload_n 0, 1, 0, 0, .null, []), (2, .getfield 30, 3, 1, 6, .null, [104, 0]), (5, .iconst 1, 1, 0, 0, .null, []), (6, .isub, 1, 0, 0, .null, []), (7, .if_icmp .ge 9, 3, 16, 0, .null, []),
  (10, .iload_n 1, 1, 0, 0, .null, []), (11, .iconst 1, 1, 0, 0, .null, []), (12, .iadd, 1, 0, 0, .null, []), (13, .goto 4, 3, 17, 0, .null, []), (16, .iconst 4, 1, 0, 0, .null, []), (17, .ireturn, 1, 0, 0, .null, [])]
/-- SmallerInTheShop$Letters <init> ()V -/
def mp_42 : List (Nat × mm_I) := [(0, .aload_n 0, 1, 0, 0, .null, []), (1, .invokespecial 3, 3, 999, 1, .null, [199, 76, 77]), (4, .aload_n 0, 1, 0, 0, .null, []), (5, .bipush 96, 2, 0, 0, .null, []), (7, .newarray .int, 2, 0, 0, .null, [130]), (9, .putfield 9, 3, 2, 0, .null, [200, 0]),
  (12, .aload_n 0, 1, 0, 0, .null, []), (13, .iconst 0, 1, 0, 0, .null, []), (14, .putfield 15, 3, 2, 1, .null, [201, 0]), (17, .return_, 1, 0, 0, .null, [])]
/-- SmallerInTheShop$Letters isFull ()Z -/
def mp_43 : List (Nat × mm_I) := [(0, .aload_n 0, 1, 0, 0, .null, []), (1, .getfield 15, 3, 2, 1, .null, [201, 0]), (4, .bipush 96, 2, 0, 0, .null, []), (6, .if_icmp .lt 7, 3, 13, 0, .null, []), (9, .iconst 1, 1, 0, 0, .null, []), (10, .goto 4, 3, 14, 0, .null, []),
  (13, .iconst 0, 1, 0, 0, .null, []), (14, .ireturn, 1, 0, 0, .null, [])]
/-- SmallerInTheShop$Letters addLetter (I)I -/
def mp_44 : List (Nat × mm_I) := [(0, .aload_n 0, 1, 0, 0, .null, []), (1, .getfield 15, 3, 2, 1, .null, [201, 0]), (4, .bipush 96, 2, 0, 0, .null, []), (6, .if_icmp .ge 23, 3, 29, 0, .null, []), (9, .aload_n 0, 1, 0, 0, .null, []), (10, .getfield 9, 3, 2, 0, .null, [200, 0]),
  (13, .aload_n 0, 1, 0, 0, .null, []), (14, .getfield 15, 3, 2, 1, .null, [201, 0]), (17, .iload_n 1, 1, 0, 0, .null, []), (18, .iastore, 1, 0, 0, .null, []), (19, .aload_n 0, 1, 0, 0, .null, []), (20, .dup, 1, 0, 0, .null, []),
  (21, .getfield 15, 3, 2, 1, .null, [201, 0]), (24, .iconst 1, 1, 0, 0, .null, []), (25, .iadd, 1, 0, 0, .null, []), (26, .putfield 15, 3, 2, 1, .null, [201, 0]), (29, .aload_n 0, 1, 0, 0, .null, []), (30, .getfield 15, 3, 2, 1, .null, [201, 0]),
  (33, .ireturn, 1, 0, 0, .null, [])]
/-- SmallerInTheShop$Letters firstWrongPlace ()I -/
def mp_45 : List (Nat × mm_I) := [(0, .aload_n 0, 1, 0, 0, .null, []), (1, .getfield 15, 3, 2, 1, .null, [201, 0]), (4, .ifCond .ne 5, 3, 9, 0, .null, []), (7, .iconst 0, 1, 0, 0, .null, []), (8, .ireturn, 1, 0, 0, .null, []), (9, .iconst 0, 1, 0, 0, .null, []),
  (10, .istore_n 1, 1, 0, 0, .null, []), (11, .iload_n 1, 1, 0, 0, .null, []), (12, .aload_n 0, 1, 0, 0, .null, []), (13, .getfield 15, 3, 2, 1, .null, [201, 0]), (16, .if_icmp .ge 94, 3, 110, 0, .null, []), (19, .aload_n 0, 1, 0, 0, .null, []),
  (20, .iload_n 1, 1, 0, 0, .null, []), (21, .invokevirtual 19, 3, 46, 2, .null, [278, 0, 279, 59, 280]), (24, .invokestatic 30, 3, 47, 1, .null, [282, 0, 283, 59]), (27, .astore_n 2, 1, 0, 0, .null, []), (28, .aload_n 2, 1, 0, 0, .null, []), (29, .invokevirtual 38, 3, 1, 1, .null, [291, 0, 292, 62, 293]),
  (32, .ifCond .eq 5, 3, 37, 0, .null, []), (35, .iload_n 1, 1, 0, 0, .null, []), (36, .ireturn, 1, 0, 0, .null, []), (37, .iconst 0, 1, 0, 0, .null, []), (38, .istore_n 3, 1, 0, 0, .null, []), (39, .iload_n 3, 1, 0, 0, .null, []),
  (40, .aload_n 2, 1, 0, 0, .null, []), (41, .invokevirtual 34, 3, 2, 1, .null, [295, 0, 296, 62, 297]), (44, .if_icmp .ge 53, 3, 97, 0, .null, []), (47, .iload_n 1, 1, 0, 0, .null, []), (48, .iconst 1, 1, 0, 0, .null, []), (49, .iadd, 1, 0, 0, .null, []),
  (50, .iload_n 3, 1, 0, 0, .null, []), (51, .iadd, 1, 0, 0, .null, []), (52, .istore 4, 2, 0, 0, .null, []), (54, .iload 4, 2, 0, 0, .null, []), (56, .aload_n 0, 1, 0, 0, .null, []), (57, .getfield 15, 3, 2, 1, .null, [201, 0]),
  (60, .if_icmp .ge 21, 3, 81, 0, .null, []), (63, .aload_n 0, 1, 0, 0, .null, []), (64, .getfield 9, 3, 2, 0, .null, [200, 0]), (67, .iload 4, 2, 0, 0, .null, []), (69, .iaload, 1, 0, 0, .null, []), (70, .aload_n 2, 1, 0, 0, .null, []),
  (71, .iload_n 3, 1, 0, 0, .null, []), (72, .invokevirtual 42, 3, 4, 2, .null, [305, 0, 306, 62, 307]), (75, .invokestatic 46, 3, 48, 2, .null, [343, 0, 344, 59]), (78, .ifCond .ne 13, 3, 91, 0, .null, []), (81, .iload 4, 2, 0, 0, .null, []), (83, .aload_n 0, 1, 0, 0, .null, []),
  (84, .getfield 15, 3, 2, 1, .null, [201, 0]), (87, .invokestatic 50, 3, 998, 2, .null, [406, 0, 366, 66, 367]), (90, .ireturn, 1, 0, 0, .null, []), (91, .iinc 3 1, 3, 0, 0, .null, []), (94, .goto (-55), 3, 39, 0, .null, []), (97, .iload_n 1, 1, 0, 0, .null, []),
  (98, .iconst 1, 1, 0, 0, .null, []), (99, .aload_n 0, 1, 0, 0, .null, []), (100, .iload_n 1, 1, 0, 0, .null, []), (101, .invokevirtual 56, 3, 49, 2, .null, [407, 0, 408, 59, 409]), (104, .iadd, 1, 0, 0, .null, []), (105, .iadd, 1, 0, 0, .null, []),
  (106, .istore_n 1, 1, 0, 0, .null, []), (107, .goto (-96), 3, 11, 0, .null, []), (110, .iconst (-1), 1, 0, 0, .null, []), (111, .ireturn, 1, 0, 0, .null, [])]
/-- SmallerInTheShop$Letters signAt (I)I -/
def mp_46 : List (Nat × mm_I) := [(0, .iload_n 1, 1, 0, 0, .null, []), (1, .ifCond .lt 20, 3, 21, 0, .null, []), (4, .iload_n 1, 1, 0, 0, .null, []), (5, .aload_n 0, 1, 0, 0, .null, []), (6, .getfield 15, 3, 2, 1, .null, [201, 0]), (9, .if_icmp .ge 12, 3, 21, 0, .null, []),
  (12, .aload_n 0, 1, 0, 0, .null, []), (13, .getfield 9, 3, 2, 0, .null, [200, 0]), (16, .iload_n 1, 1, 0, 0, .null, []), (17, .iaload, 1, 0, 0, .null, []), (18, .goto 4, 3, 22, 0, .null, []), (21, .iconst 0, 1, 0, 0, .null, []),
  (22, .ireturn, 1, 0, 0, .null, [])]
/-- SmallerInTheShop$Letters shapeBehind (I)Ljava/lang/String; -/
def mp_47 : List (Nat × mm_I) := [(0, .iload_n 0, 1, 0, 0, .null, []), (1, .lookupswitch 66 #[(99, 63), (102, 57), (107, 51), (111, 60), (119, 54)], 51, 0, 0, .null, []), (52, .ldc 59, 2, 0, 0, .retAddr 31, []), (54, .areturn, 1, 0, 0, .null, []), (55, .ldc 61, 2, 0, 0, .retAddr 32, []), (57, .areturn, 1, 0, 0, .null, []),
  (58, .ldc 63, 2, 0, 0, .retAddr 33, []), (60, .areturn, 1, 0, 0, .null, []), (61, .ldc 65, 2, 0, 0, .retAddr 34, []), (63, .areturn, 1, 0, 0, .null, []), (64, .ldc 67, 2, 0, 0, .retAddr 35, []), (66, .areturn, 1, 0, 0, .null, []),
  (67, .ldc 69, 2, 0, 0, .retAddr 36, []), (69, .areturn, 1, 0, 0, .null, [])]
/-- SmallerInTheShop$Letters fits (IC)Z -/
def mp_48 : List (Nat × mm_I) := [(0, .iload_n 1, 1, 0, 0, .null, []), (1, .bipush 48, 2, 0, 0, .null, []), (3, .if_icmp .ne 21, 3, 24, 0, .null, []), (6, .iload_n 0, 1, 0, 0, .null, []), (7, .bipush 48, 2, 0, 0, .null, []), (9, .if_icmp .lt 13, 3, 22, 0, .null, []),
  (12, .iload_n 0, 1, 0, 0, .null, []), (13, .bipush 57, 2, 0, 0, .null, []), (15, .if_icmp .gt 7, 3, 22, 0, .null, []), (18, .iconst 1, 1, 0, 0, .null, []), (19, .goto 4, 3, 23, 0, .null, []), (22, .iconst 0, 1, 0, 0, .null, []),
  (23, .ireturn, 1, 0, 0, .null, []), (24, .iload_n 1, 1, 0, 0, .null, []), (25, .bipush 107, 2, 0, 0, .null, []), (27, .if_icmp .ne 21, 3, 48, 0, .null, []), (30, .ldc 23, 2, 0, 0, .retAddr 30, []), (32, .iload_n 0, 1, 0, 0, .null, []),
  (33, .i2c, 1, 0, 0, .null, []), (34, .invokevirtual 25, 3, 7, 2, .null, [347, 0, 348, 62, 349]), (37, .ifCond .lt 7, 3, 44, 0, .null, []), (40, .iconst 1, 1, 0, 0, .null, []), (41, .goto 17, 3, 58, 0, .null, []), (44, .iconst 0, 1, 0, 0, .null, []),
  (45, .goto 13, 3, 58, 0, .null, []), (48, .iload_n 0, 1, 0, 0, .null, []), (49, .iload_n 1, 1, 0, 0, .null, []), (50, .if_icmp .ne 7, 3, 57, 0, .null, []), (53, .iconst 1, 1, 0, 0, .null, []), (54, .goto 4, 3, 58, 0, .null, []),
  (57, .iconst 0, 1, 0, 0, .null, []), (58, .ireturn, 1, 0, 0, .null, [])]
/-- SmallerInTheShop$Letters lengthBehind (I)I -/
def mp_49 : List (Nat × mm_I) := [(0, .aload_n 0, 1, 0, 0, .null, []), (1, .iload_n 1, 1, 0, 0, .null, []), (2, .invokevirtual 19, 3, 46, 2, .null, [278, 0, 279, 59, 280]), (5, .invokestatic 30, 3, 47, 1, .null, [282, 0, 283, 59]), (8, .invokevirtual 34, 3, 2, 1, .null, [295, 0, 296, 62, 297]), (11, .ireturn, 1, 0, 0, .null, [])]
/-- SmallerInTheShop$Letters digitAt (I)I -/
def mp_50 : List (Nat × mm_I) := [(0, .aload_n 0, 1, 0, 0, .null, []), (1, .iload_n 1, 1, 0, 0, .null, []), (2, .invokevirtual 19, 3, 46, 2, .null, [278, 0, 279, 59, 280]), (5, .bipush 48, 2, 0, 0, .null, []), (7, .isub, 1, 0, 0, .null, []), (8, .ireturn, 1, 0, 0, .null, [])]
/-- SmallerInTheShop$Letters kindAt (I)I -/
def mp_51 : List (Nat × mm_I) := [(0, .ldc 23, 2, 0, 0, .retAddr 30, []), (2, .aload_n 0, 1, 0, 0, .null, []), (3, .iload_n 1, 1, 0, 0, .null, []), (4, .invokevirtual 19, 3, 46, 2, .null, [278, 0, 279, 59, 280]), (7, .i2c, 1, 0, 0, .null, []), (8, .invokevirtual 25, 3, 7, 2, .null, [347, 0, 348, 62, 349]),
  (11, .ireturn, 1, 0, 0, .null, [])]
/-- SmallerInTheShop$Letters forget ()V -/
def mp_52 : List (Nat × mm_I) := [(0, .aload_n 0, 1, 0, 0, .null, []), (1, .iconst 0, 1, 0, 0, .null, []), (2, .putfield 15, 3, 2, 1, .null, [201, 0]), (5, .return_, 1, 0, 0, .null, [])]
/-- SmallerInTheShop$Search <init> ()V -/
def mp_53 : List (Nat × mm_I) := [(0, .aload_n 0, 1, 0, 0, .null, []), (1, .invokespecial 3, 3, 999, 1, .null, [164, 76, 77]), (4, .aload_n 0, 1, 0, 0, .null, []), (5, .bipush 8, 2, 0, 0, .null, []), (7, .newarray .int, 2, 0, 0, .null, [130]), (9, .putfield 9, 3, 3, 0, .null, [165, 0]),
  (12, .aload_n 0, 1, 0, 0, .null, []), (13, .iconst 5, 1, 0, 0, .null, []), (14, .newarray .int, 2, 0, 0, .null, [130]), (16, .putfield 15, 3, 3, 1, .null, [167, 0]), (19, .return_, 1, 0, 0, .null, [])]
/-- SmallerInTheShop$Search begin (I)V -/
def mp_54 : List (Nat × mm_I) := [(0, .aload_n 0, 1, 0, 0, .null, []), (1, .iload_n 1, 1, 0, 0, .null, []), (2, .putfield 18, 3, 3, 2, .null, [168, 0]), (5, .aload_n 0, 1, 0, 0, .null, []), (6, .iconst 1, 1, 0, 0, .null, []), (7, .putfield 22, 3, 3, 3, .null, [169, 0]),
  (10, .aload_n 0, 1, 0, 0, .null, []), (11, .iconst 0, 1, 0, 0, .null, []), (12, .putfield 25, 3, 3, 4, .null, [171, 0]), (15, .aload_n 0, 1, 0, 0, .null, []), (16, .iconst 0, 1, 0, 0, .null, []), (17, .putfield 28, 3, 3, 5, .null, [173, 0]),
  (20, .aload_n 0, 1, 0, 0, .null, []), (21, .iconst 0, 1, 0, 0, .null, []), (22, .putfield 32, 3, 3, 6, .null, [175, 0]), (25, .aload_n 0, 1, 0, 0, .null, []), (26, .iconst 0, 1, 0, 0, .null, []), (27, .putfield 35, 3, 3, 7, .null, [176, 0]),
  (30, .iconst 0, 1, 0, 0, .null, []), (31, .istore_n 2, 1, 0, 0, .null, []), (32, .iload_n 2, 1, 0, 0, .null, []), (33, .iconst 4, 1, 0, 0, .null, []), (34, .if_icmp .gt 16, 3, 50, 0, .null, []), (37, .aload_n 0, 1, 0, 0, .null, []),
  (38, .getfield 15, 3, 3, 1, .null, [167, 0]), (41, .iload_n 2, 1, 0, 0, .null, []), (42, .iconst 0, 1, 0, 0, .null, []), (43, .iastore, 1, 0, 0, .null, []), (44, .iinc 2 1, 3, 0, 0, .null, []), (47, .goto (-15), 3, 32, 0, .null, []),
  (50, .return_, 1, 0, 0, .null, [])]
/-- SmallerInTheShop$Search run (LSmallerInTheShop$Sheet;)V -/
def mp_55 : List (Nat × mm_I) := [(0, .aload_n 0, 1, 0, 0, .null, []), (1, .aload_n 1, 1, 0, 0, .null, []), (2, .aload_n 1, 1, 0, 0, .null, []), (3, .getfield 38, 3, 4, 4, .null, [141, 1]), (6, .iconst 0, 1, 0, 0, .null, []), (7, .iconst 0, 1, 0, 0, .null, []),
  (8, .invokevirtual 43, 3, 56, 5, .null, [651, 0, 653, 58, 16]), (11, .return_, 1, 0, 0, .null, [])]
/-- SmallerInTheShop$Search explore (LSmallerInTheShop$Sheet;III)V -/
def mp_56 : List (Nat × mm_I) := [(0, .iload_n 2, 1, 0, 0, .null, []), (1, .aload_n 1, 1, 0, 0, .null, []), (2, .getfield 38, 3, 4, 4, .null, [141, 1]), (5, .if_icmp .lt 8, 3, 13, 0, .null, []), (8, .iload_n 2, 1, 0, 0, .null, []), (9, .iconst 4, 1, 0, 0, .null, []),
  (10, .if_icmp .le 4, 3, 14, 0, .null, []), (13, .return_, 1, 0, 0, .null, []), (14, .aload_n 1, 1, 0, 0, .null, []), (15, .getfield 47, 3, 4, 0, .null, [132, 1]), (18, .iload_n 2, 1, 0, 0, .null, []), (19, .aaload, 1, 0, 0, .null, []),
  (20, .astore 5, 2, 0, 0, .null, []), (22, .iload_n 2, 1, 0, 0, .null, []), (23, .aload_n 1, 1, 0, 0, .null, []), (24, .getfield 38, 3, 4, 4, .null, [141, 1]), (27, .isub, 1, 0, 0, .null, []), (28, .istore 6, 2, 0, 0, .null, []),
  (30, .aload_n 0, 1, 0, 0, .null, []), (31, .aload_n 1, 1, 0, 0, .null, []), (32, .aload 5, 2, 0, 0, .null, []), (34, .invokevirtual 51, 3, 57, 3, .null, [655, 0, 657, 58, 17]), (37, .ifCond .eq 29, 3, 66, 0, .null, []), (40, .aload_n 0, 1, 0, 0, .null, []),
  (41, .getfield 15, 3, 3, 1, .null, [167, 0]), (44, .iload 6, 2, 0, 0, .null, []), (46, .dup2, 1, 0, 0, .null, []), (47, .iaload, 1, 0, 0, .null, []), (48, .iconst 1, 1, 0, 0, .null, []), (49, .iadd, 1, 0, 0, .null, []),
  (50, .iastore, 1, 0, 0, .null, []), (51, .aload_n 0, 1, 0, 0, .null, []), (52, .aload_n 0, 1, 0, 0, .null, []), (53, .aload 5, 2, 0, 0, .null, []), (55, .iload 6, 2, 0, 0, .null, []), (57, .iload_n 3, 1, 0, 0, .null, []),
  (58, .invokevirtual 55, 3, 59, 4, .null, [673, 0, 675, 58, 19]), (61, .iload 4, 2, 0, 0, .null, []), (63, .invokevirtual 59, 3, 60, 3, .null, [683, 0, 685, 58, 20]), (66, .aload_n 0, 1, 0, 0, .null, []), (67, .iload_n 3, 1, 0, 0, .null, []), (68, .invokevirtual 63, 3, 61, 2, .null, [687, 0, 689, 58, 21]),
  (71, .ifCond .eq 4, 3, 75, 0, .null, []), (74, .return_, 1, 0, 0, .null, []), (75, .iconst 1, 1, 0, 0, .null, []), (76, .istore 7, 2, 0, 0, .null, []), (78, .iload 7, 2, 0, 0, .null, []), (80, .iconst 4, 1, 0, 0, .null, []),
  (81, .if_icmp .gt 76, 3, 157, 0, .null, []), (84, .iconst 0, 1, 0, 0, .null, []), (85, .istore 8, 2, 0, 0, .null, []), (87, .iload 8, 2, 0, 0, .null, []), (89, .aload_n 0, 1, 0, 0, .null, []), (90, .aload 5, 2, 0, 0, .null, []),
  (92, .invokevirtual 67, 3, 62, 2, .null, [691, 0, 693, 58, 22]), (95, .if_icmp .ge 56, 3, 151, 0, .null, []), (98, .aload_n 1, 1, 0, 0, .null, []), (99, .iload_n 2, 1, 0, 0, .null, []), (100, .iload 7, 2, 0, 0, .null, []), (102, .invokevirtual 71, 3, 69, 3, .null, [695, 0, 456, 56, 457]),
  (105, .ifCond .eq 46, 3, 151, 0, .null, []), (108, .aload_n 1, 1, 0, 0, .null, []), (109, .iload_n 2, 1, 0, 0, .null, []), (110, .iload 7, 2, 0, 0, .null, []), (112, .iload 8, 2, 0, 0, .null, []), (114, .invokevirtual 75, 3, 71, 4, .null, [696, 0, 468, 56, 469]),
  (117, .istore 9, 2, 0, 0, .null, []), (119, .aload_n 0, 1, 0, 0, .null, []), (120, .aload_n 1, 1, 0, 0, .null, []), (121, .iload_n 2, 1, 0, 0, .null, []), (122, .iconst 1, 1, 0, 0, .null, []), (123, .iadd, 1, 0, 0, .null, []),
  (124, .iload_n 3, 1, 0, 0, .null, []), (125, .iload 9, 2, 0, 0, .null, []), (127, .iadd, 1, 0, 0, .null, []), (128, .bipush 100, 2, 0, 0, .null, []), (130, .iload 4, 2, 0, 0, .null, []), (132, .imul, 1, 0, 0, .null, []),
  (133, .bipush 10, 2, 0, 0, .null, []), (135, .iload 7, 2, 0, 0, .null, []), (137, .imul, 1, 0, 0, .null, []), (138, .iadd, 1, 0, 0, .null, []), (139, .iload 8, 2, 0, 0, .null, []), (141, .iadd, 1, 0, 0, .null, []),
  (142, .invokevirtual 43, 3, 56, 5, .null, [651, 0, 653, 58, 16]), (145, .iinc 8 1, 3, 0, 0, .null, []), (148, .goto (-61), 3, 87, 0, .null, []), (151, .iinc 7 1, 3, 0, 0, .null, []), (154, .goto (-76), 3, 78, 0, .null, []), (157, .return_, 1, 0, 0, .null, [])]
/-- SmallerInTheShop$Search isReached (LSmallerInTheShop$Sheet;LSmallerInTheShop$Layout;)Z -/
def mp_57 : List (Nat × mm_I) := [(0, .aload_n 0, 1, 0, 0, .null, []), (1, .getfield 18, 3, 3, 2, .null, [168, 0]), (4, .tableswitch 99 2 4 #[28, 61, 78], 28, 0, 0, .null, []), (32, .aload_n 2, 1, 0, 0, .null, []), (33, .invokevirtual 79, 3, 38, 1, .null, [659, 0, 660, 57, 661]), (36, .aload_n 0, 1, 0, 0, .null, []),
  (37, .getfield 22, 3, 3, 3, .null, [169, 0]), (40, .if_icmp .gt 23, 3, 63, 0, .null, []), (43, .aload_n 2, 1, 0, 0, .null, []), (44, .invokevirtual 85, 3, 35, 1, .null, [663, 0, 627, 57, 628]), (47, .aload_n 0, 1, 0, 0, .null, []), (48, .getfield 25, 3, 3, 4, .null, [171, 0]),
  (51, .iand, 1, 0, 0, .null, []), (52, .aload_n 0, 1, 0, 0, .null, []), (53, .getfield 25, 3, 3, 4, .null, [171, 0]), (56, .if_icmp .ne 7, 3, 63, 0, .null, []), (59, .iconst 1, 1, 0, 0, .null, []), (60, .goto 4, 3, 64, 0, .null, []),
  (63, .iconst 0, 1, 0, 0, .null, []), (64, .ireturn, 1, 0, 0, .null, []), (65, .aload_n 2, 1, 0, 0, .null, []), (66, .invokevirtual 79, 3, 38, 1, .null, [659, 0, 660, 57, 661]), (69, .aload_n 0, 1, 0, 0, .null, []), (70, .getfield 22, 3, 3, 3, .null, [169, 0]),
  (73, .if_icmp .gt 7, 3, 80, 0, .null, []), (76, .iconst 1, 1, 0, 0, .null, []), (77, .goto 4, 3, 81, 0, .null, []), (80, .iconst 0, 1, 0, 0, .null, []), (81, .ireturn, 1, 0, 0, .null, []), (82, .aload_n 2, 1, 0, 0, .null, []),
  (83, .invokevirtual 88, 3, 39, 1, .null, [664, 0, 665, 57, 666]), (86, .ifCond .eq 15, 3, 101, 0, .null, []), (89, .aload_n 0, 1, 0, 0, .null, []), (90, .aload_n 2, 1, 0, 0, .null, []), (91, .invokevirtual 92, 3, 58, 2, .null, [668, 0, 670, 58, 18]), (94, .ifCond .eq 7, 3, 101, 0, .null, []),
  (97, .iconst 1, 1, 0, 0, .null, []), (98, .goto 4, 3, 102, 0, .null, []), (101, .iconst 0, 1, 0, 0, .null, []), (102, .ireturn, 1, 0, 0, .null, []), (103, .aload_n 2, 1, 0, 0, .null, []), (104, .invokevirtual 88, 3, 39, 1, .null, [664, 0, 665, 57, 666]),
  (107, .ifCond .eq 18, 3, 125, 0, .null, []), (110, .aload_n 2, 1, 0, 0, .null, []), (111, .aload_n 1, 1, 0, 0, .null, []), (112, .getfield 96, 3, 4, 5, .null, [145, 1]), (115, .invokevirtual 99, 3, 36, 2, .null, [672, 0, 632, 57, 633]), (118, .ifCond .eq 7, 3, 125, 0, .null, []),
  (121, .iconst 1, 1, 0, 0, .null, []), (122, .goto 4, 3, 126, 0, .null, []), (125, .iconst 0, 1, 0, 0, .null, []), (126, .ireturn, 1, 0, 0, .null, [])]
/-- SmallerInTheShop$Search liesAsWanted (LSmallerInTheShop$Layout;)Z -/
def mp_58 : List (Nat × mm_I) := [(0, .iconst 0, 1, 0, 0, .null, []), (1, .istore_n 2, 1, 0, 0, .null, []), (2, .iload_n 2, 1, 0, 0, .null, []), (3, .bipush 8, 2, 0, 0, .null, []), (5, .if_icmp .ge 26, 3, 31, 0, .null, []), (8, .aload_n 1, 1, 0, 0, .null, []),
  (9, .getfield 102, 3, 1, 2, .null, [97, 1]), (12, .iload_n 2, 1, 0, 0, .null, []), (13, .iaload, 1, 0, 0, .null, []), (14, .aload_n 0, 1, 0, 0, .null, []), (15, .getfield 9, 3, 3, 0, .null, [165, 0]), (18, .iload_n 2, 1, 0, 0, .null, []),
  (19, .iaload, 1, 0, 0, .null, []), (20, .if_icmp .eq 5, 3, 25, 0, .null, []), (23, .iconst 0, 1, 0, 0, .null, []), (24, .ireturn, 1, 0, 0, .null, []), (25, .iinc 2 1, 3, 0, 0, .null, []), (28, .goto (-26), 3, 2, 0, .null, []),
  (31, .iconst 1, 1, 0, 0, .null, []), (32, .ireturn, 1, 0, 0, .null, [])]
/-- SmallerInTheShop$Search costOf (LSmallerInTheShop$Layout;II)I -/
def mp_59 : List (Nat × mm_I) := [(0, .aload_n 0, 1, 0, 0, .null, []), (1, .getfield 18, 3, 3, 2, .null, [168, 0]), (4, .lookupswitch 46 #[(1, 28), (3, 30)], 28, 0, 0, .null, []), (32, .iload_n 2, 1, 0, 0, .null, []), (33, .ireturn, 1, 0, 0, .null, []), (34, .bipush 8, 2, 0, 0, .null, []),
  (36, .aload_n 1, 1, 0, 0, .null, []), (37, .invokevirtual 85, 3, 35, 1, .null, [663, 0, 627, 57, 628]), (40, .aload_n 0, 1, 0, 0, .null, []), (41, .getfield 25, 3, 3, 4, .null, [171, 0]), (44, .iand, 1, 0, 0, .null, []), (45, .invokestatic 105, 3, 0, 1, .null, [677, 0, 678, 69]),
  (48, .isub, 1, 0, 0, .null, []), (49, .ireturn, 1, 0, 0, .null, []), (50, .iload_n 3, 1, 0, 0, .null, []), (51, .ireturn, 1, 0, 0, .null, [])]
/-- SmallerInTheShop$Search offer (II)V -/
def mp_60 : List (Nat × mm_I) := [(0, .aload_n 0, 1, 0, 0, .null, []), (1, .getfield 28, 3, 3, 5, .null, [173, 0]), (4, .ifCond .eq 27, 3, 31, 0, .null, []), (7, .iload_n 1, 1, 0, 0, .null, []), (8, .aload_n 0, 1, 0, 0, .null, []), (9, .getfield 32, 3, 3, 6, .null, [175, 0]),
  (12, .if_icmp .lt 19, 3, 31, 0, .null, []), (15, .iload_n 1, 1, 0, 0, .null, []), (16, .aload_n 0, 1, 0, 0, .null, []), (17, .getfield 32, 3, 3, 6, .null, [175, 0]), (20, .if_icmp .ne 26, 3, 46, 0, .null, []), (23, .iload_n 2, 1, 0, 0, .null, []),
  (24, .aload_n 0, 1, 0, 0, .null, []), (25, .getfield 35, 3, 3, 7, .null, [176, 0]), (28, .if_icmp .ge 18, 3, 46, 0, .null, []), (31, .aload_n 0, 1, 0, 0, .null, []), (32, .iconst 1, 1, 0, 0, .null, []), (33, .putfield 28, 3, 3, 5, .null, [173, 0]),
  (36, .aload_n 0, 1, 0, 0, .null, []), (37, .iload_n 1, 1, 0, 0, .null, []), (38, .putfield 32, 3, 3, 6, .null, [175, 0]), (41, .aload_n 0, 1, 0, 0, .null, []), (42, .iload_n 2, 1, 0, 0, .null, []), (43, .putfield 35, 3, 3, 7, .null, [176, 0]),
  (46, .return_, 1, 0, 0, .null, [])]
/-- SmallerInTheShop$Search isHopeless (I)Z -/
def mp_61 : List (Nat × mm_I) := [(0, .aload_n 0, 1, 0, 0, .null, []), (1, .getfield 18, 3, 3, 2, .null, [168, 0]), (4, .iconst 1, 1, 0, 0, .null, []), (5, .if_icmp .eq 15, 3, 20, 0, .null, []), (8, .aload_n 0, 1, 0, 0, .null, []), (9, .getfield 18, 3, 3, 2, .null, [168, 0]),
  (12, .iconst 3, 1, 0, 0, .null, []), (13, .if_icmp .eq 7, 3, 20, 0, .null, []), (16, .iconst 1, 1, 0, 0, .null, []), (17, .goto 4, 3, 21, 0, .null, []), (20, .iconst 0, 1, 0, 0, .null, []), (21, .istore_n 2, 1, 0, 0, .null, []),
  (22, .iload_n 2, 1, 0, 0, .null, []), (23, .ifCond .eq 22, 3, 45, 0, .null, []), (26, .aload_n 0, 1, 0, 0, .null, []), (27, .getfield 28, 3, 3, 5, .null, [173, 0]), (30, .ifCond .eq 15, 3, 45, 0, .null, []), (33, .iload_n 1, 1, 0, 0, .null, []),
  (34, .aload_n 0, 1, 0, 0, .null, []), (35, .getfield 32, 3, 3, 6, .null, [175, 0]), (38, .if_icmp .le 7, 3, 45, 0, .null, []), (41, .iconst 1, 1, 0, 0, .null, []), (42, .goto 4, 3, 46, 0, .null, []), (45, .iconst 0, 1, 0, 0, .null, []),
  (46, .ireturn, 1, 0, 0, .null, [])]
/-- SmallerInTheShop$Search waysToTry (LSmallerInTheShop$Layout;)I -/
def mp_62 : List (Nat × mm_I) := [(0, .aload_n 0, 1, 0, 0, .null, []), (1, .getfield 18, 3, 3, 2, .null, [168, 0]), (4, .iconst 4, 1, 0, 0, .null, []), (5, .if_icmp .ne 15, 3, 20, 0, .null, []), (8, .aload_n 1, 1, 0, 0, .null, []), (9, .invokevirtual 79, 3, 38, 1, .null, [659, 0, 660, 57, 661]),
  (12, .iconst 2, 1, 0, 0, .null, []), (13, .if_icmp .ne 7, 3, 20, 0, .null, []), (16, .iconst 4, 1, 0, 0, .null, []), (17, .goto 4, 3, 21, 0, .null, []), (20, .iconst 2, 1, 0, 0, .null, []), (21, .ireturn, 1, 0, 0, .null, [])]
/-- SmallerInTheShop$Search wayFound ()I -/
def mp_63 : List (Nat × mm_I) := [(0, .aload_n 0, 1, 0, 0, .null, []), (1, .getfield 28, 3, 3, 5, .null, [173, 0]), (4, .ifCond .eq 10, 3, 14, 0, .null, []), (7, .aload_n 0, 1, 0, 0, .null, []), (8, .getfield 35, 3, 3, 7, .null, [176, 0]), (11, .goto 5, 3, 16, 0, .null, []),
  (14, .bipush (-9), 2, 0, 0, .null, []), (16, .ireturn, 1, 0, 0, .null, [])]
/-- SmallerInTheShop$Search costFound ()I -/
def mp_64 : List (Nat × mm_I) := [(0, .aload_n 0, 1, 0, 0, .null, []), (1, .getfield 28, 3, 3, 5, .null, [173, 0]), (4, .ifCond .eq 10, 3, 14, 0, .null, []), (7, .aload_n 0, 1, 0, 0, .null, []), (8, .getfield 32, 3, 3, 6, .null, [175, 0]), (11, .goto 5, 3, 16, 0, .null, []),
  (14, .bipush (-9), 2, 0, 0, .null, []), (16, .ireturn, 1, 0, 0, .null, [])]
/-- SmallerInTheShop$Search waysWith (I)I -/
def mp_65 : List (Nat × mm_I) := [(0, .iload_n 1, 1, 0, 0, .null, []), (1, .ifCond .lt 19, 3, 20, 0, .null, []), (4, .iload_n 1, 1, 0, 0, .null, []), (5, .iconst 4, 1, 0, 0, .null, []), (6, .if_icmp .gt 14, 3, 20, 0, .null, []), (9, .aload_n 0, 1, 0, 0, .null, []),
  (10, .getfield 15, 3, 3, 1, .null, [167, 0]), (13, .iload_n 1, 1, 0, 0, .null, []), (14, .iaload, 1, 0, 0, .null, []), (15, .iload_n 1, 1, 0, 0, .null, []), (16, .ishl, 1, 0, 0, .null, []), (17, .goto 4, 3, 21, 0, .null, []),
  (20, .iconst 0, 1, 0, 0, .null, []), (21, .ireturn, 1, 0, 0, .null, [])]
/-- SmallerInTheShop$Sheet <init> ()V -/
def mp_66 : List (Nat × mm_I) := [(0, .aload_n 0, 1, 0, 0, .null, []), (1, .invokespecial 3, 3, 999, 1, .null, [83, 76, 77]), (4, .aload_n 0, 1, 0, 0, .null, []), (5, .iconst 5, 1, 0, 0, .null, []), (6, .anewarray 9, 3, 0, 0, .null, [84, 85]), (9, .putfield 11, 3, 4, 0, .null, [131, 0]),
  (12, .aload_n 0, 1, 0, 0, .null, []), (13, .bipush 10, 2, 0, 0, .null, []), (15, .newarray .int, 2, 0, 0, .null, [130]), (17, .putfield 17, 3, 4, 1, .null, [134, 0]), (20, .aload_n 0, 1, 0, 0, .null, []), (21, .bipush 10, 2, 0, 0, .null, []),
  (23, .newarray .int, 2, 0, 0, .null, [130]), (25, .putfield 21, 3, 4, 2, .null, [136, 0]), (28, .aload_n 0, 1, 0, 0, .null, []), (29, .bipush 10, 2, 0, 0, .null, []), (31, .newarray .int, 2, 0, 0, .null, [130]), (33, .putfield 24, 3, 4, 3, .null, [138, 0]),
  (36, .iconst 0, 1, 0, 0, .null, []), (37, .istore_n 1, 1, 0, 0, .null, []), (38, .iload_n 1, 1, 0, 0, .null, []), (39, .iconst 4, 1, 0, 0, .null, []), (40, .if_icmp .gt 22, 3, 62, 0, .null, []), (43, .aload_n 0, 1, 0, 0, .null, []),
  (44, .getfield 11, 3, 4, 0, .null, [131, 0]), (47, .iload_n 1, 1, 0, 0, .null, []), (48, .new 9, 3, 1, 0, .null, [84, 86, 57]), (51, .dup, 1, 0, 0, .null, []), (52, .invokespecial 27, 3, 21, 1, .null, [87, 0, 88, 57]), (55, .aastore, 1, 0, 0, .null, []),
  (56, .iinc 1 1, 3, 0, 0, .null, []), (59, .goto (-21), 3, 38, 0, .null, []), (62, .aload_n 0, 1, 0, 0, .null, []), (63, .iconst 0, 1, 0, 0, .null, []), (64, .putfield 28, 3, 4, 4, .null, [140, 0]), (67, .aload_n 0, 1, 0, 0, .null, []),
  (68, .iconst 0, 1, 0, 0, .null, []), (69, .putfield 32, 3, 4, 5, .null, [143, 0]), (72, .return_, 1, 0, 0, .null, [])]
/-- SmallerInTheShop$Sheet copyFrom (LSmallerInTheShop$Sheet;)V -/
def mp_67 : List (Nat × mm_I) := [(0, .aload_n 0, 1, 0, 0, .null, []), (1, .aload_n 1, 1, 0, 0, .null, []), (2, .invokevirtual 35, 3, 68, 2, .null, [419, 0, 420, 56, 421]), (5, .aload_n 0, 1, 0, 0, .null, []), (6, .aload_n 1, 1, 0, 0, .null, []), (7, .getfield 28, 3, 4, 4, .null, [140, 0]),
  (10, .putfield 28, 3, 4, 4, .null, [140, 0]), (13, .aload_n 0, 1, 0, 0, .null, []), (14, .aload_n 1, 1, 0, 0, .null, []), (15, .getfield 32, 3, 4, 5, .null, [143, 0]), (18, .putfield 32, 3, 4, 5, .null, [143, 0]), (21, .iconst 1, 1, 0, 0, .null, []),
  (22, .istore_n 2, 1, 0, 0, .null, []), (23, .iload_n 2, 1, 0, 0, .null, []), (24, .aload_n 0, 1, 0, 0, .null, []), (25, .getfield 28, 3, 4, 4, .null, [140, 0]), (28, .if_icmp .gt 29, 3, 57, 0, .null, []), (31, .iload_n 2, 1, 0, 0, .null, []),
  (32, .iconst 4, 1, 0, 0, .null, []), (33, .if_icmp .gt 24, 3, 57, 0, .null, []), (36, .aload_n 0, 1, 0, 0, .null, []), (37, .getfield 11, 3, 4, 0, .null, [131, 0]), (40, .iload_n 2, 1, 0, 0, .null, []), (41, .aaload, 1, 0, 0, .null, []),
  (42, .aload_n 1, 1, 0, 0, .null, []), (43, .getfield 11, 3, 4, 0, .null, [131, 0]), (46, .iload_n 2, 1, 0, 0, .null, []), (47, .aaload, 1, 0, 0, .null, []), (48, .invokevirtual 39, 3, 22, 2, .null, [423, 0, 424, 57, 425]), (51, .iinc 2 1, 3, 0, 0, .null, []),
  (54, .goto (-31), 3, 23, 0, .null, []), (57, .return_, 1, 0, 0, .null, [])]
/-- SmallerInTheShop$Sheet copyCreasesFrom (LSmallerInTheShop$Sheet;)V -/
def mp_68 : List (Nat × mm_I) := [(0, .iconst 0, 1, 0, 0, .null, []), (1, .istore_n 2, 1, 0, 0, .null, []), (2, .iload_n 2, 1, 0, 0, .null, []), (3, .bipush 10, 2, 0, 0, .null, []), (5, .if_icmp .ge 45, 3, 50, 0, .null, []), (8, .aload_n 0, 1, 0, 0, .null, []),
  (9, .getfield 17, 3, 4, 1, .null, [134, 0]), (12, .iload_n 2, 1, 0, 0, .null, []), (13, .aload_n 1, 1, 0, 0, .null, []), (14, .getfield 17, 3, 4, 1, .null, [134, 0]), (17, .iload_n 2, 1, 0, 0, .null, []), (18, .iaload, 1, 0, 0, .null, []),
  (19, .iastore, 1, 0, 0, .null, []), (20, .aload_n 0, 1, 0, 0, .null, []), (21, .getfield 21, 3, 4, 2, .null, [136, 0]), (24, .iload_n 2, 1, 0, 0, .null, []), (25, .aload_n 1, 1, 0, 0, .null, []), (26, .getfield 21, 3, 4, 2, .null, [136, 0]),
  (29, .iload_n 2, 1, 0, 0, .null, []), (30, .iaload, 1, 0, 0, .null, []), (31, .iastore, 1, 0, 0, .null, []), (32, .aload_n 0, 1, 0, 0, .null, []), (33, .getfield 24, 3, 4, 3, .null, [138, 0]), (36, .iload_n 2, 1, 0, 0, .null, []),
  (37, .aload_n 1, 1, 0, 0, .null, []), (38, .getfield 24, 3, 4, 3, .null, [138, 0]), (41, .iload_n 2, 1, 0, 0, .null, []), (42, .iaload, 1, 0, 0, .null, []), (43, .iastore, 1, 0, 0, .null, []), (44, .iinc 2 1, 3, 0, 0, .null, []),
  (47, .goto (-45), 3, 2, 0, .null, []), (50, .return_, 1, 0, 0, .null, [])]
/-- SmallerInTheShop$Sheet canFold (II)Z -/
def mp_69 : List (Nat × mm_I) := [(0, .iload_n 1, 1, 0, 0, .null, []), (1, .iconst 4, 1, 0, 0, .null, []), (2, .if_icmp .ge 20, 3, 22, 0, .null, []), (5, .aload_n 0, 1, 0, 0, .null, []), (6, .getfield 11, 3, 4, 0, .null, [131, 0]), (9, .iload_n 1, 1, 0, 0, .null, []),
  (10, .aaload, 1, 0, 0, .null, []), (11, .iload_n 2, 1, 0, 0, .null, []), (12, .invokevirtual 43, 3, 23, 2, .null, [459, 0, 460, 57, 461]), (15, .ifCond .eq 7, 3, 22, 0, .null, []), (18, .iconst 1, 1, 0, 0, .null, []), (19, .goto 4, 3, 23, 0, .null, []),
  (22, .iconst 0, 1, 0, 0, .null, []), (23, .ireturn, 1, 0, 0, .null, [])]
/-- SmallerInTheShop$Sheet makeFold (II)I -/
def mp_70 : List (Nat × mm_I) := [(0, .aload_n 0, 1, 0, 0, .null, []), (1, .aload_n 0, 1, 0, 0, .null, []), (2, .getfield 28, 3, 4, 4, .null, [140, 0]), (5, .iload_n 1, 1, 0, 0, .null, []), (6, .iload_n 2, 1, 0, 0, .null, []), (7, .invokevirtual 61, 3, 71, 4, .null, [467, 0, 468, 56, 469]),
  (10, .istore_n 3, 1, 0, 0, .null, []), (11, .aload_n 0, 1, 0, 0, .null, []), (12, .dup, 1, 0, 0, .null, []), (13, .getfield 28, 3, 4, 4, .null, [140, 0]), (16, .iconst 1, 1, 0, 0, .null, []), (17, .iadd, 1, 0, 0, .null, []),
  (18, .putfield 28, 3, 4, 4, .null, [140, 0]), (21, .aload_n 0, 1, 0, 0, .null, []), (22, .aload_n 0, 1, 0, 0, .null, []), (23, .invokevirtual 65, 3, 73, 1, .null, [519, 0, 520, 56, 521]), (26, .invokevirtual 69, 3, 74, 2, .null, [523, 0, 525, 56, 12]), (29, .iload_n 3, 1, 0, 0, .null, []),
  (30, .ireturn, 1, 0, 0, .null, [])]
/-- SmallerInTheShop$Sheet tryFold (III)I -/
def mp_71 : List (Nat × mm_I) := [(0, .aload_n 0, 1, 0, 0, .null, []), (1, .getfield 11, 3, 4, 0, .null, [131, 0]), (4, .iload_n 1, 1, 0, 0, .null, []), (5, .iconst 1, 1, 0, 0, .null, []), (6, .iadd, 1, 0, 0, .null, []), (7, .aaload, 1, 0, 0, .null, []),
  (8, .astore 4, 2, 0, 0, .null, []), (10, .aload 4, 2, 0, 0, .null, []), (12, .aload_n 0, 1, 0, 0, .null, []), (13, .getfield 11, 3, 4, 0, .null, [131, 0]), (16, .iload_n 1, 1, 0, 0, .null, []), (17, .aaload, 1, 0, 0, .null, []),
  (18, .iload_n 2, 1, 0, 0, .null, []), (19, .iload_n 3, 1, 0, 0, .null, []), (20, .invokevirtual 47, 3, 24, 4, .null, [471, 0, 472, 57, 473]), (23, .iconst 0, 1, 0, 0, .null, []), (24, .istore 5, 2, 0, 0, .null, []), (26, .iconst 0, 1, 0, 0, .null, []),
  (27, .istore 6, 2, 0, 0, .null, []), (29, .iload 6, 2, 0, 0, .null, []), (31, .bipush 10, 2, 0, 0, .null, []), (33, .if_icmp .ge 41, 3, 74, 0, .null, []), (36, .aload 4, 2, 0, 0, .null, []), (38, .getfield 51, 3, 1, 8, .null, [109, 1]),
  (41, .iload 6, 2, 0, 0, .null, []), (43, .ishr, 1, 0, 0, .null, []), (44, .iconst 1, 1, 0, 0, .null, []), (45, .iand, 1, 0, 0, .null, []), (46, .ifCond .eq 22, 3, 68, 0, .null, []), (49, .iload 5, 2, 0, 0, .null, []),
  (51, .aload_n 0, 1, 0, 0, .null, []), (52, .iload 6, 2, 0, 0, .null, []), (54, .aload 4, 2, 0, 0, .null, []), (56, .getfield 54, 3, 1, 4, .null, [102, 1]), (59, .iload 6, 2, 0, 0, .null, []), (61, .iaload, 1, 0, 0, .null, []),
  (62, .invokevirtual 57, 3, 72, 3, .null, [506, 0, 507, 56, 508]), (65, .iadd, 1, 0, 0, .null, []), (66, .istore 5, 2, 0, 0, .null, []), (68, .iinc 6 1, 3, 0, 0, .null, []), (71, .goto (-42), 3, 29, 0, .null, []), (74, .iload 5, 2, 0, 0, .null, []),
  (76, .ireturn, 1, 0, 0, .null, [])]
/-- SmallerInTheShop$Sheet effortOn (II)I -/
def mp_72 : List (Nat × mm_I) := [(0, .aload_n 0, 1, 0, 0, .null, []), (1, .getfield 17, 3, 4, 1, .null, [134, 0]), (4, .iload_n 1, 1, 0, 0, .null, []), (5, .iaload, 1, 0, 0, .null, []), (6, .aload_n 0, 1, 0, 0, .null, []), (7, .getfield 21, 3, 4, 2, .null, [136, 0]),
  (10, .iload_n 1, 1, 0, 0, .null, []), (11, .iaload, 1, 0, 0, .null, []), (12, .aload_n 0, 1, 0, 0, .null, []), (13, .getfield 24, 3, 4, 3, .null, [138, 0]), (16, .iload_n 1, 1, 0, 0, .null, []), (17, .iaload, 1, 0, 0, .null, []),
  (18, .iload_n 2, 1, 0, 0, .null, []), (19, .invokestatic 72, 3, 16, 4, .null, [510, 0, 511, 68]), (22, .ireturn, 1, 0, 0, .null, [])]
/-- SmallerInTheShop$Sheet top ()LSmallerInTheShop$Layout; -/
def mp_73 : List (Nat × mm_I) := [(0, .aload_n 0, 1, 0, 0, .null, []), (1, .getfield 11, 3, 4, 0, .null, [131, 0]), (4, .aload_n 0, 1, 0, 0, .null, []), (5, .getfield 28, 3, 4, 4, .null, [140, 0]), (8, .aaload, 1, 0, 0, .null, []), (9, .areturn, 1, 0, 0, .null, [])]
/-- SmallerInTheShop$Sheet wearDown (LSmallerInTheShop$Layout;)V -/
def mp_74 : List (Nat × mm_I) := [(0, .iconst 0, 1, 0, 0, .null, []), (1, .istore_n 2, 1, 0, 0, .null, []), (2, .iload_n 2, 1, 0, 0, .null, []), (3, .bipush 10, 2, 0, 0, .null, []), (5, .if_icmp .ge 21, 3, 26, 0, .null, []), (8, .aload_n 0, 1, 0, 0, .null, []),
  (9, .getfield 24, 3, 4, 3, .null, [138, 0]), (12, .iload_n 2, 1, 0, 0, .null, []), (13, .aload_n 0, 1, 0, 0, .null, []), (14, .iload_n 2, 1, 0, 0, .null, []), (15, .aload_n 1, 1, 0, 0, .null, []), (16, .invokevirtual 78, 3, 75, 3, .null, [527, 0, 529, 56, 13]),
  (19, .iastore, 1, 0, 0, .null, []), (20, .iinc 2 1, 3, 0, 0, .null, []), (23, .goto (-21), 3, 2, 0, .null, []), (26, .return_, 1, 0, 0, .null, [])]
/-- SmallerInTheShop$Sheet wornBehind (ILSmallerInTheShop$Layout;)I -/
def mp_75 : List (Nat × mm_I) := [(0, .aload_n 2, 1, 0, 0, .null, []), (1, .getfield 51, 3, 1, 8, .null, [109, 1]), (4, .iload_n 1, 1, 0, 0, .null, []), (5, .ishr, 1, 0, 0, .null, []), (6, .iconst 1, 1, 0, 0, .null, []), (7, .iand, 1, 0, 0, .null, []),
  (8, .ifCond .ne 10, 3, 18, 0, .null, []), (11, .aload_n 0, 1, 0, 0, .null, []), (12, .getfield 24, 3, 4, 3, .null, [138, 0]), (15, .iload_n 1, 1, 0, 0, .null, []), (16, .iaload, 1, 0, 0, .null, []), (17, .ireturn, 1, 0, 0, .null, []),
  (18, .aload_n 0, 1, 0, 0, .null, []), (19, .getfield 17, 3, 4, 1, .null, [134, 0]), (22, .iload_n 1, 1, 0, 0, .null, []), (23, .iaload, 1, 0, 0, .null, []), (24, .aload_n 0, 1, 0, 0, .null, []), (25, .getfield 24, 3, 4, 3, .null, [138, 0]),
  (28, .iload_n 1, 1, 0, 0, .null, []), (29, .iaload, 1, 0, 0, .null, []), (30, .aload_n 2, 1, 0, 0, .null, []), (31, .getfield 54, 3, 1, 4, .null, [102, 1]), (34, .iload_n 1, 1, 0, 0, .null, []), (35, .iaload, 1, 0, 0, .null, []),
  (36, .invokestatic 82, 3, 19, 3, .null, [531, 0, 532, 68]), (39, .istore_n 3, 1, 0, 0, .null, []), (40, .bipush 99, 2, 0, 0, .null, []), (42, .aload_n 0, 1, 0, 0, .null, []), (43, .getfield 24, 3, 4, 3, .null, [138, 0]), (46, .iload_n 1, 1, 0, 0, .null, []),
  (47, .iaload, 1, 0, 0, .null, []), (48, .iload_n 3, 1, 0, 0, .null, []), (49, .iadd, 1, 0, 0, .null, []), (50, .invokestatic 85, 3, 998, 2, .null, [537, 0, 366, 66, 367]), (53, .ireturn, 1, 0, 0, .null, [])]
/-- SmallerInTheShop$Sheet openLast ()Z -/
def mp_76 : List (Nat × mm_I) := [(0, .aload_n 0, 1, 0, 0, .null, []), (1, .getfield 28, 3, 4, 4, .null, [140, 0]), (4, .ifCond .ne 5, 3, 9, 0, .null, []), (7, .iconst 0, 1, 0, 0, .null, []), (8, .ireturn, 1, 0, 0, .null, []), (9, .aload_n 0, 1, 0, 0, .null, []),
  (10, .dup, 1, 0, 0, .null, []), (11, .getfield 28, 3, 4, 4, .null, [140, 0]), (14, .iconst 1, 1, 0, 0, .null, []), (15, .isub, 1, 0, 0, .null, []), (16, .putfield 28, 3, 4, 4, .null, [140, 0]), (19, .iconst 1, 1, 0, 0, .null, []),
  (20, .ireturn, 1, 0, 0, .null, [])]
/-- SmallerInTheShop$Sheet wearOf (LSmallerInTheShop$Layout;)I -/
def mp_77 : List (Nat × mm_I) := [(0, .iconst 0, 1, 0, 0, .null, []), (1, .istore_n 2, 1, 0, 0, .null, []), (2, .iconst 0, 1, 0, 0, .null, []), (3, .istore_n 3, 1, 0, 0, .null, []), (4, .iload_n 3, 1, 0, 0, .null, []), (5, .bipush 10, 2, 0, 0, .null, []),
  (7, .if_icmp .ge 25, 3, 32, 0, .null, []), (10, .iload_n 2, 1, 0, 0, .null, []), (11, .aload_n 0, 1, 0, 0, .null, []), (12, .iload_n 3, 1, 0, 0, .null, []), (13, .aload_n 1, 1, 0, 0, .null, []), (14, .invokevirtual 78, 3, 75, 3, .null, [527, 0, 529, 56, 13]),
  (17, .aload_n 0, 1, 0, 0, .null, []), (18, .getfield 24, 3, 4, 3, .null, [138, 0]), (21, .iload_n 3, 1, 0, 0, .null, []), (22, .iaload, 1, 0, 0, .null, []), (23, .isub, 1, 0, 0, .null, []), (24, .iadd, 1, 0, 0, .null, []),
  (25, .istore_n 2, 1, 0, 0, .null, []), (26, .iinc 3 1, 3, 0, 0, .null, []), (29, .goto (-25), 3, 4, 0, .null, []), (32, .iload_n 2, 1, 0, 0, .null, []), (33, .ireturn, 1, 0, 0, .null, [])]
/-- SmallerInTheShop$Sheet lastsUnder (LSmallerInTheShop$Layout;)I -/
def mp_78 : List (Nat × mm_I) := [(0, .aload_n 0, 1, 0, 0, .null, []), (1, .invokevirtual 94, 3, 79, 1, .null, [738, 0, 739, 56, 740]), (4, .istore_n 2, 1, 0, 0, .null, []), (5, .iconst 1, 1, 0, 0, .null, []), (6, .istore_n 3, 1, 0, 0, .null, []), (7, .iload_n 3, 1, 0, 0, .null, []),
  (8, .bipush 99, 2, 0, 0, .null, []), (10, .if_icmp .ge 24, 3, 34, 0, .null, []), (13, .aload_n 0, 1, 0, 0, .null, []), (14, .aload_n 1, 1, 0, 0, .null, []), (15, .invokevirtual 69, 3, 74, 2, .null, [523, 0, 525, 56, 12]), (18, .aload_n 0, 1, 0, 0, .null, []),
  (19, .invokevirtual 94, 3, 79, 1, .null, [738, 0, 739, 56, 740]), (22, .iload_n 2, 1, 0, 0, .null, []), (23, .if_icmp .eq 5, 3, 28, 0, .null, []), (26, .iload_n 3, 1, 0, 0, .null, []), (27, .ireturn, 1, 0, 0, .null, []), (28, .iinc 3 1, 3, 0, 0, .null, []),
  (31, .goto (-24), 3, 7, 0, .null, []), (34, .bipush 99, 2, 0, 0, .null, []), (36, .ireturn, 1, 0, 0, .null, [])]
/-- SmallerInTheShop$Sheet holes ()I -/
def mp_79 : List (Nat × mm_I) := [(0, .iconst 0, 1, 0, 0, .null, []), (1, .istore_n 1, 1, 0, 0, .null, []), (2, .iconst 0, 1, 0, 0, .null, []), (3, .istore_n 2, 1, 0, 0, .null, []), (4, .iload_n 2, 1, 0, 0, .null, []), (5, .iconst 3, 1, 0, 0, .null, []),
  (6, .if_icmp .ge 25, 3, 31, 0, .null, []), (9, .aload_n 0, 1, 0, 0, .null, []), (10, .iload_n 2, 1, 0, 0, .null, []), (11, .invokevirtual 90, 3, 80, 2, .null, [742, 0, 743, 56, 744]), (14, .bipush 40, 2, 0, 0, .null, []), (16, .if_icmp .lt 9, 3, 25, 0, .null, []),
  (19, .iload_n 1, 1, 0, 0, .null, []), (20, .iconst 1, 1, 0, 0, .null, []), (21, .iload_n 2, 1, 0, 0, .null, []), (22, .ishl, 1, 0, 0, .null, []), (23, .ior, 1, 0, 0, .null, []), (24, .istore_n 1, 1, 0, 0, .null, []),
  (25, .iinc 2 1, 3, 0, 0, .null, []), (28, .goto (-24), 3, 4, 0, .null, []), (31, .iload_n 1, 1, 0, 0, .null, []), (32, .ireturn, 1, 0, 0, .null, [])]
/-- SmallerInTheShop$Sheet wornAt (I)I -/
def mp_80 : List (Nat × mm_I) := [(0, .aload_n 0, 1, 0, 0, .null, []), (1, .getfield 24, 3, 4, 3, .null, [138, 0]), (4, .iload_n 1, 1, 0, 0, .null, []), (5, .iaload, 1, 0, 0, .null, []), (6, .aload_n 0, 1, 0, 0, .null, []), (7, .getfield 24, 3, 4, 3, .null, [138, 0]),
  (10, .iload_n 1, 1, 0, 0, .null, []), (11, .iconst 3, 1, 0, 0, .null, []), (12, .iadd, 1, 0, 0, .null, []), (13, .iaload, 1, 0, 0, .null, []), (14, .iadd, 1, 0, 0, .null, []), (15, .aload_n 0, 1, 0, 0, .null, []),
  (16, .getfield 24, 3, 4, 3, .null, [138, 0]), (19, .iload_n 1, 1, 0, 0, .null, []), (20, .bipush 6, 2, 0, 0, .null, []), (22, .iadd, 1, 0, 0, .null, []), (23, .iaload, 1, 0, 0, .null, []), (24, .iadd, 1, 0, 0, .null, []),
  (25, .aload_n 0, 1, 0, 0, .null, []), (26, .getfield 24, 3, 4, 3, .null, [138, 0]), (29, .iload_n 1, 1, 0, 0, .null, []), (30, .bipush 7, 2, 0, 0, .null, []), (32, .iadd, 1, 0, 0, .null, []), (33, .iaload, 1, 0, 0, .null, []),
  (34, .iadd, 1, 0, 0, .null, []), (35, .ireturn, 1, 0, 0, .null, [])]
/-- SmallerInTheShop$Sheet wornOfAll ()I -/
def mp_81 : List (Nat × mm_I) := [(0, .iconst 0, 1, 0, 0, .null, []), (1, .istore_n 1, 1, 0, 0, .null, []), (2, .iconst 0, 1, 0, 0, .null, []), (3, .istore_n 2, 1, 0, 0, .null, []), (4, .iload_n 2, 1, 0, 0, .null, []), (5, .bipush 10, 2, 0, 0, .null, []),
  (7, .if_icmp .ge 18, 3, 25, 0, .null, []), (10, .iload_n 1, 1, 0, 0, .null, []), (11, .aload_n 0, 1, 0, 0, .null, []), (12, .getfield 24, 3, 4, 3, .null, [138, 0]), (15, .iload_n 2, 1, 0, 0, .null, []), (16, .iaload, 1, 0, 0, .null, []),
  (17, .iadd, 1, 0, 0, .null, []), (18, .istore_n 1, 1, 0, 0, .null, []), (19, .iinc 2 1, 3, 0, 0, .null, []), (22, .goto (-18), 3, 4, 0, .null, []), (25, .iload_n 1, 1, 0, 0, .null, []), (26, .ireturn, 1, 0, 0, .null, [])]
/-- SmallerInTheShop <init> ()V -/
def mp_82 : List (Nat × mm_I) := [(0, .aload_n 0, 1, 0, 0, .null, []), (1, .invokespecial 1, 3, 999, 1, .null, [75, 76, 77]), (4, .aload_n 0, 1, 0, 0, .null, []), (5, .new 7, 3, 4, 0, .null, [78, 79, 56]), (8, .dup, 1, 0, 0, .null, []), (9, .invokespecial 9, 3, 66, 1, .null, [80, 0, 81, 56]),
  (12, .putfield 10, 3, 5, 0, .null, [223, 0]), (15, .aload_n 0, 1, 0, 0, .null, []), (16, .new 7, 3, 4, 0, .null, [78, 79, 56]), (19, .dup, 1, 0, 0, .null, []), (20, .invokespecial 9, 3, 66, 1, .null, [80, 0, 81, 56]), (23, .putfield 16, 3, 5, 1, .null, [224, 0]),
  (26, .aload_n 0, 1, 0, 0, .null, []), (27, .new 7, 3, 4, 0, .null, [78, 79, 56]), (30, .dup, 1, 0, 0, .null, []), (31, .invokespecial 9, 3, 66, 1, .null, [80, 0, 81, 56]), (34, .putfield 19, 3, 5, 2, .null, [225, 0]), (37, .aload_n 0, 1, 0, 0, .null, []),
  (38, .new 22, 3, 3, 0, .null, [159, 160, 58]), (41, .dup, 1, 0, 0, .null, []), (42, .invokespecial 24, 3, 53, 1, .null, [161, 1, 162, 58]), (45, .putfield 25, 3, 5, 3, .null, [226, 0]), (48, .aload_n 0, 1, 0, 0, .null, []), (49, .new 29, 3, 2, 0, .null, [194, 195, 59]),
  (52, .dup, 1, 0, 0, .null, []), (53, .invokespecial 31, 3, 42, 1, .null, [196, 0, 197, 59]), (56, .putfield 32, 3, 5, 4, .null, [227, 0]), (59, .aload_n 0, 1, 0, 0, .null, []), (60, .new 36, 3, 0, 0, .null, [208, 209, 60]), (63, .dup, 1, 0, 0, .null, []),
  (64, .invokespecial 38, 3, 14, 1, .null, [210, 0, 211, 60]), (67, .putfield 39, 3, 5, 5, .null, [228, 0]), (70, .aload_n 0, 1, 0, 0, .null, []), (71, .bipush 16, 2, 0, 0, .null, []), (73, .newarray .int, 2, 0, 0, .null, [130]), (75, .putfield 43, 3, 5, 6, .null, [229, 0]),
  (78, .aload_n 0, 1, 0, 0, .null, []), (79, .bipush 7, 2, 0, 0, .null, []), (81, .newarray .int, 2, 0, 0, .null, [130]), (83, .putfield 47, 3, 5, 7, .null, [230, 0]), (86, .aload_n 0, 1, 0, 0, .null, []), (87, .iconst 0, 1, 0, 0, .null, []),
  (88, .putfield 50, 3, 5, 8, .null, [231, 0]), (91, .aload_n 0, 1, 0, 0, .null, []), (92, .iconst 0, 1, 0, 0, .null, []), (93, .putfield 54, 3, 5, 9, .null, [232, 0]), (96, .return_, 1, 0, 0, .null, [])]
/-- SmallerInTheShop letter (I)I -/
def mp_83 : List (Nat × mm_I) := [(0, .iload_n 1, 1, 0, 0, .null, []), (1, .ifCond .ge 10, 3, 11, 0, .null, []), (4, .aload_n 0, 1, 0, 0, .null, []), (5, .bipush (-4), 2, 0, 0, .null, []), (7, .invokevirtual 58, 3, 84, 2, .null, [258, 0, 260, 55, 0]), (10, .ireturn, 1, 0, 0, .null, []),
  (11, .iload_n 1, 1, 0, 0, .null, []), (12, .sipush 255, 3, 0, 0, .null, []), (15, .if_icmp .gt 13, 3, 28, 0, .null, []), (18, .aload_n 0, 1, 0, 0, .null, []), (19, .getfield 32, 3, 5, 4, .null, [227, 0]), (22, .invokevirtual 62, 3, 43, 1, .null, [262, 0, 263, 59, 264]),
  (25, .ifCond .eq 10, 3, 35, 0, .null, []), (28, .aload_n 0, 1, 0, 0, .null, []), (29, .bipush (-6), 2, 0, 0, .null, []), (31, .invokevirtual 58, 3, 84, 2, .null, [258, 0, 260, 55, 0]), (34, .ireturn, 1, 0, 0, .null, []), (35, .aload_n 0, 1, 0, 0, .null, []),
  (36, .getfield 32, 3, 5, 4, .null, [227, 0]), (39, .iload_n 1, 1, 0, 0, .null, []), (40, .invokevirtual 66, 3, 44, 2, .null, [266, 0, 267, 59, 268]), (43, .ireturn, 1, 0, 0, .null, [])]
/-- SmallerInTheShop refuse (I)I -/
def mp_84 : List (Nat × mm_I) := [(0, .iload_n 1, 1, 0, 0, .null, []), (1, .ineg, 1, 0, 0, .null, []), (2, .istore_n 2, 1, 0, 0, .null, []), (3, .iload_n 2, 1, 0, 0, .null, []), (4, .iconst 1, 1, 0, 0, .null, []), (5, .if_icmp .lt 19, 3, 24, 0, .null, []),
  (8, .iload_n 2, 1, 0, 0, .null, []), (9, .bipush 6, 2, 0, 0, .null, []), (11, .if_icmp .gt 13, 3, 24, 0, .null, []), (14, .aload_n 0, 1, 0, 0, .null, []), (15, .getfield 47, 3, 5, 7, .null, [230, 0]), (18, .iload_n 2, 1, 0, 0, .null, []),
  (19, .dup2, 1, 0, 0, .null, []), (20, .iaload, 1, 0, 0, .null, []), (21, .iconst 1, 1, 0, 0, .null, []), (22, .iadd, 1, 0, 0, .null, []), (23, .iastore, 1, 0, 0, .null, []), (24, .iload_n 1, 1, 0, 0, .null, []),
  (25, .ireturn, 1, 0, 0, .null, [])]
/-- SmallerInTheShop map ()I -/
def mp_85 : List (Nat × mm_I) := [(0, .aload_n 0, 1, 0, 0, .null, []), (1, .getfield 32, 3, 5, 4, .null, [227, 0]), (4, .invokevirtual 69, 3, 45, 1, .null, [274, 0, 275, 59, 276]), (7, .istore_n 1, 1, 0, 0, .null, []), (8, .iload_n 1, 1, 0, 0, .null, []), (9, .ifCond .lt 11, 3, 20, 0, .null, []),
  (12, .sipush (-1000), 3, 0, 0, .null, []), (15, .iload_n 1, 1, 0, 0, .null, []), (16, .isub, 1, 0, 0, .null, []), (17, .goto 7, 3, 24, 0, .null, []), (20, .aload_n 0, 1, 0, 0, .null, []), (21, .invokevirtual 73, 3, 86, 1, .null, [411, 0, 413, 55, 1]),
  (24, .istore_n 2, 1, 0, 0, .null, []), (25, .aload_n 0, 1, 0, 0, .null, []), (26, .getfield 32, 3, 5, 4, .null, [227, 0]), (29, .invokevirtual 76, 3, 52, 1, .null, [547, 0, 548, 59, 549]), (32, .iload_n 2, 1, 0, 0, .null, []), (33, .ireturn, 1, 0, 0, .null, [])]
/-- SmallerInTheShop doStatements ()I -/
def mp_86 : List (Nat × mm_I) := [(0, .aload_n 0, 1, 0, 0, .null, []), (1, .getfield 19, 3, 5, 2, .null, [225, 0]), (4, .aload_n 0, 1, 0, 0, .null, []), (5, .getfield 10, 3, 5, 0, .null, [223, 0]), (8, .invokevirtual 276, 3, 67, 2, .null, [415, 0, 416, 56, 417]), (11, .iconst 0, 1, 0, 0, .null, []),
  (12, .istore_n 1, 1, 0, 0, .null, []), (13, .iconst 0, 1, 0, 0, .null, []), (14, .istore_n 2, 1, 0, 0, .null, []), (15, .iload_n 2, 1, 0, 0, .null, []), (16, .aload_n 0, 1, 0, 0, .null, []), (17, .getfield 32, 3, 5, 4, .null, [227, 0]),
  (20, .getfield 282, 3, 2, 1, .null, [202, 1]), (23, .if_icmp .ge 36, 3, 59, 0, .null, []), (26, .aload_n 0, 1, 0, 0, .null, []), (27, .iload_n 2, 1, 0, 0, .null, []), (28, .invokevirtual 293, 3, 87, 2, .null, [427, 0, 429, 55, 2]), (31, .ifCond .ne 9, 3, 40, 0, .null, []),
  (34, .sipush (-2000), 3, 0, 0, .null, []), (37, .iload_n 2, 1, 0, 0, .null, []), (38, .isub, 1, 0, 0, .null, []), (39, .ireturn, 1, 0, 0, .null, []), (40, .iinc 1 1, 3, 0, 0, .null, []), (43, .iload_n 2, 1, 0, 0, .null, []),
  (44, .iconst 1, 1, 0, 0, .null, []), (45, .aload_n 0, 1, 0, 0, .null, []), (46, .getfield 32, 3, 5, 4, .null, [227, 0]), (49, .iload_n 2, 1, 0, 0, .null, []), (50, .invokevirtual 296, 3, 49, 2, .null, [546, 0, 408, 59, 409]), (53, .iadd, 1, 0, 0, .null, []),
  (54, .iadd, 1, 0, 0, .null, []), (55, .istore_n 2, 1, 0, 0, .null, []), (56, .goto (-41), 3, 15, 0, .null, []), (59, .aload_n 0, 1, 0, 0, .null, []), (60, .getfield 10, 3, 5, 0, .null, [223, 0]), (63, .aload_n 0, 1, 0, 0, .null, []),
  (64, .getfield 19, 3, 5, 2, .null, [225, 0]), (67, .invokevirtual 276, 3, 67, 2, .null, [415, 0, 416, 56, 417]), (70, .iload_n 1, 1, 0, 0, .null, []), (71, .ireturn, 1, 0, 0, .null, [])]
/-- SmallerInTheShop doStatement (I)Z -/
def mp_87 : List (Nat × mm_I) := [(0, .aload_n 0, 1, 0, 0, .null, []), (1, .getfield 32, 3, 5, 4, .null, [227, 0]), (4, .iload_n 1, 1, 0, 0, .null, []), (5, .iconst 1, 1, 0, 0, .null, []), (6, .iadd, 1, 0, 0, .null, []), (7, .invokevirtual 299, 3, 50, 2, .null, [431, 0, 432, 59, 433]),
  (10, .istore_n 2, 1, 0, 0, .null, []), (11, .aload_n 0, 1, 0, 0, .null, []), (12, .getfield 32, 3, 5, 4, .null, [227, 0]), (15, .iload_n 1, 1, 0, 0, .null, []), (16, .invokevirtual 302, 3, 46, 2, .null, [435, 0, 279, 59, 280]), (19, .lookupswitch 135 #[(99, 129), (102, 105), (107, 49), (111, 121), (119, 75)], 49, 0, 0, .null, []),
  (68, .aload_n 0, 1, 0, 0, .null, []), (69, .iload_n 2, 1, 0, 0, .null, []), (70, .aload_n 0, 1, 0, 0, .null, []), (71, .getfield 32, 3, 5, 4, .null, [227, 0]), (74, .iload_n 1, 1, 0, 0, .null, []), (75, .iconst 2, 1, 0, 0, .null, []),
  (76, .iadd, 1, 0, 0, .null, []), (77, .invokevirtual 305, 3, 51, 2, .null, [436, 0, 437, 59, 438]), (80, .aload_n 0, 1, 0, 0, .null, []), (81, .getfield 32, 3, 5, 4, .null, [227, 0]), (84, .iload_n 1, 1, 0, 0, .null, []), (85, .iconst 3, 1, 0, 0, .null, []),
  (86, .iadd, 1, 0, 0, .null, []), (87, .invokevirtual 299, 3, 50, 2, .null, [431, 0, 432, 59, 433]), (90, .invokevirtual 308, 3, 88, 4, .null, [440, 0, 442, 55, 3]), (93, .ireturn, 1, 0, 0, .null, []), (94, .aload_n 0, 1, 0, 0, .null, []), (95, .iload_n 2, 1, 0, 0, .null, []),
  (96, .bipush 10, 2, 0, 0, .null, []), (98, .aload_n 0, 1, 0, 0, .null, []), (99, .getfield 32, 3, 5, 4, .null, [227, 0]), (102, .iload_n 1, 1, 0, 0, .null, []), (103, .iconst 2, 1, 0, 0, .null, []), (104, .iadd, 1, 0, 0, .null, []),
  (105, .invokevirtual 299, 3, 50, 2, .null, [431, 0, 432, 59, 433]), (108, .imul, 1, 0, 0, .null, []), (109, .aload_n 0, 1, 0, 0, .null, []), (110, .getfield 32, 3, 5, 4, .null, [227, 0]), (113, .iload_n 1, 1, 0, 0, .null, []), (114, .iconst 3, 1, 0, 0, .null, []),
  (115, .iadd, 1, 0, 0, .null, []), (116, .invokevirtual 299, 3, 50, 2, .null, [431, 0, 432, 59, 433]), (119, .iadd, 1, 0, 0, .null, []), (120, .invokevirtual 312, 3, 90, 3, .null, [447, 0, 449, 55, 4]), (123, .ireturn, 1, 0, 0, .null, []), (124, .aload_n 0, 1, 0, 0, .null, []),
  (125, .iload_n 2, 1, 0, 0, .null, []), (126, .aload_n 0, 1, 0, 0, .null, []), (127, .getfield 32, 3, 5, 4, .null, [227, 0]), (130, .iload_n 1, 1, 0, 0, .null, []), (131, .iconst 2, 1, 0, 0, .null, []), (132, .iadd, 1, 0, 0, .null, []),
  (133, .invokevirtual 299, 3, 50, 2, .null, [431, 0, 432, 59, 433]), (136, .invokevirtual 315, 3, 91, 3, .null, [451, 0, 453, 55, 5]), (139, .ireturn, 1, 0, 0, .null, []), (140, .aload_n 0, 1, 0, 0, .null, []), (141, .getfield 19, 3, 5, 2, .null, [225, 0]), (144, .invokevirtual 134, 3, 76, 1, .null, [538, 0, 539, 56, 540]),
  (147, .ireturn, 1, 0, 0, .null, []), (148, .aload_n 0, 1, 0, 0, .null, []), (149, .iload_n 2, 1, 0, 0, .null, []), (150, .invokevirtual 318, 3, 92, 2, .null, [542, 0, 544, 55, 14]), (153, .ireturn, 1, 0, 0, .null, []), (154, .iconst 0, 1, 0, 0, .null, []),
  (155, .ireturn, 1, 0, 0, .null, [])]
/-- SmallerInTheShop tellKind (III)Z -/
def mp_88 : List (Nat × mm_I) := [(0, .iload_n 1, 1, 0, 0, .null, []), (1, .bipush 10, 2, 0, 0, .null, []), (3, .invokestatic 79, 3, 89, 2, .null, [444, 0, 445, 55]), (6, .ifCond .ne 5, 3, 11, 0, .null, []), (9, .iconst 0, 1, 0, 0, .null, []), (10, .ireturn, 1, 0, 0, .null, []),
  (11, .aload_n 0, 1, 0, 0, .null, []), (12, .getfield 19, 3, 5, 2, .null, [225, 0]), (15, .getfield 83, 3, 4, 1, .null, [135, 1]), (18, .iload_n 1, 1, 0, 0, .null, []), (19, .iload_n 2, 1, 0, 0, .null, []), (20, .iastore, 1, 0, 0, .null, []),
  (21, .aload_n 0, 1, 0, 0, .null, []), (22, .getfield 19, 3, 5, 2, .null, [225, 0]), (25, .getfield 86, 3, 4, 2, .null, [137, 1]), (28, .iload_n 1, 1, 0, 0, .null, []), (29, .iload_n 3, 1, 0, 0, .null, []), (30, .iastore, 1, 0, 0, .null, []),
  (31, .iconst 1, 1, 0, 0, .null, []), (32, .ireturn, 1, 0, 0, .null, [])]
/-- SmallerInTheShop isBelow (II)Z -/
def mp_89 : List (Nat × mm_I) := [(0, .iload_n 0, 1, 0, 0, .null, []), (1, .ifCond .lt 12, 3, 13, 0, .null, []), (4, .iload_n 0, 1, 0, 0, .null, []), (5, .iload_n 1, 1, 0, 0, .null, []), (6, .if_icmp .ge 7, 3, 13, 0, .null, []), (9, .iconst 1, 1, 0, 0, .null, []),
  (10, .goto 4, 3, 14, 0, .null, []), (13, .iconst 0, 1, 0, 0, .null, []), (14, .ireturn, 1, 0, 0, .null, [])]
/-- SmallerInTheShop tellWorn (II)Z -/
def mp_90 : List (Nat × mm_I) := [(0, .iload_n 1, 1, 0, 0, .null, []), (1, .bipush 10, 2, 0, 0, .null, []), (3, .invokestatic 79, 3, 89, 2, .null, [444, 0, 445, 55]), (6, .ifCond .ne 5, 3, 11, 0, .null, []), (9, .iconst 0, 1, 0, 0, .null, []), (10, .ireturn, 1, 0, 0, .null, []),
  (11, .aload_n 0, 1, 0, 0, .null, []), (12, .getfield 19, 3, 5, 2, .null, [225, 0]), (15, .getfield 89, 3, 4, 3, .null, [139, 1]), (18, .iload_n 1, 1, 0, 0, .null, []), (19, .iload_n 2, 1, 0, 0, .null, []), (20, .iastore, 1, 0, 0, .null, []),
  (21, .iconst 1, 1, 0, 0, .null, []), (22, .ireturn, 1, 0, 0, .null, [])]
/-- SmallerInTheShop tellFold (II)Z -/
def mp_91 : List (Nat × mm_I) := [(0, .aload_n 0, 1, 0, 0, .null, []), (1, .getfield 19, 3, 5, 2, .null, [225, 0]), (4, .aload_n 0, 1, 0, 0, .null, []), (5, .getfield 19, 3, 5, 2, .null, [225, 0]), (8, .getfield 137, 3, 4, 4, .null, [142, 1]), (11, .iload_n 1, 1, 0, 0, .null, []),
  (12, .invokevirtual 290, 3, 69, 3, .null, [455, 0, 456, 56, 457]), (15, .ifCond .eq 11, 3, 26, 0, .null, []), (18, .iload_n 2, 1, 0, 0, .null, []), (19, .iconst 4, 1, 0, 0, .null, []), (20, .invokestatic 79, 3, 89, 2, .null, [444, 0, 445, 55]), (23, .ifCond .ne 5, 3, 28, 0, .null, []),
  (26, .iconst 0, 1, 0, 0, .null, []), (27, .ireturn, 1, 0, 0, .null, []), (28, .aload_n 0, 1, 0, 0, .null, []), (29, .getfield 19, 3, 5, 2, .null, [225, 0]), (32, .iload_n 1, 1, 0, 0, .null, []), (33, .iload_n 2, 1, 0, 0, .null, []),
  (34, .invokevirtual 131, 3, 70, 3, .null, [463, 0, 464, 56, 465]), (37, .pop, 1, 0, 0, .null, []), (38, .iconst 1, 1, 0, 0, .null, []), (39, .ireturn, 1, 0, 0, .null, [])]
/-- SmallerInTheShop tellCover (I)Z -/
def mp_92 : List (Nat × mm_I) := [(0, .iload_n 1, 1, 0, 0, .null, []), (1, .bipush 8, 2, 0, 0, .null, []), (3, .invokestatic 79, 3, 89, 2, .null, [444, 0, 445, 55]), (6, .ifCond .ne 5, 3, 11, 0, .null, []), (9, .iconst 0, 1, 0, 0, .null, []), (10, .ireturn, 1, 0, 0, .null, []),
  (11, .aload_n 0, 1, 0, 0, .null, []), (12, .getfield 19, 3, 5, 2, .null, [225, 0]), (15, .iload_n 1, 1, 0, 0, .null, []), (16, .putfield 140, 3, 4, 5, .null, [144, 1]), (19, .iconst 1, 1, 0, 0, .null, []), (20, .ireturn, 1, 0, 0, .null, [])]
/-- SmallerInTheShop crease (II)I -/
def mp_93 : List (Nat × mm_I) := [(0, .iload_n 1, 1, 0, 0, .null, []), (1, .bipush 10, 2, 0, 0, .null, []), (3, .invokestatic 79, 3, 89, 2, .null, [444, 0, 445, 55]), (6, .ifCond .ne 9, 3, 15, 0, .null, []), (9, .aload_n 0, 1, 0, 0, .null, []), (10, .iconst (-1), 1, 0, 0, .null, []),
  (11, .invokevirtual 58, 3, 84, 2, .null, [258, 0, 260, 55, 0]), (14, .ireturn, 1, 0, 0, .null, []), (15, .iload_n 2, 1, 0, 0, .null, []), (16, .tableswitch 103 0 5 #[40, 50, 60, 70, 83, 93], 40, 0, 0, .null, []), (56, .aload_n 0, 1, 0, 0, .null, []), (57, .getfield 10, 3, 5, 0, .null, [223, 0]),
  (60, .getfield 83, 3, 4, 1, .null, [135, 1]), (63, .iload_n 1, 1, 0, 0, .null, []), (64, .iaload, 1, 0, 0, .null, []), (65, .ireturn, 1, 0, 0, .null, []), (66, .aload_n 0, 1, 0, 0, .null, []), (67, .getfield 10, 3, 5, 0, .null, [223, 0]),
  (70, .getfield 86, 3, 4, 2, .null, [137, 1]), (73, .iload_n 1, 1, 0, 0, .null, []), (74, .iaload, 1, 0, 0, .null, []), (75, .ireturn, 1, 0, 0, .null, []), (76, .aload_n 0, 1, 0, 0, .null, []), (77, .getfield 10, 3, 5, 0, .null, [223, 0]),
  (80, .getfield 89, 3, 4, 3, .null, [139, 1]), (83, .iload_n 1, 1, 0, 0, .null, []), (84, .iaload, 1, 0, 0, .null, []), (85, .ireturn, 1, 0, 0, .null, []), (86, .aload_n 0, 1, 0, 0, .null, []), (87, .getfield 10, 3, 5, 0, .null, [223, 0]),
  (90, .invokevirtual 92, 3, 73, 1, .null, [556, 0, 520, 56, 521]), (93, .getfield 96, 3, 1, 4, .null, [101, 1]), (96, .iload_n 1, 1, 0, 0, .null, []), (97, .iaload, 1, 0, 0, .null, []), (98, .ireturn, 1, 0, 0, .null, []), (99, .aload_n 0, 1, 0, 0, .null, []),
  (100, .getfield 10, 3, 5, 0, .null, [223, 0]), (103, .iload_n 1, 1, 0, 0, .null, []), (104, .iconst 1, 1, 0, 0, .null, []), (105, .invokevirtual 101, 3, 72, 3, .null, [557, 0, 507, 56, 508]), (108, .ireturn, 1, 0, 0, .null, []), (109, .aload_n 0, 1, 0, 0, .null, []),
  (110, .getfield 10, 3, 5, 0, .null, [223, 0]), (113, .iload_n 1, 1, 0, 0, .null, []), (114, .iconst 2, 1, 0, 0, .null, []), (115, .invokevirtual 101, 3, 72, 3, .null, [557, 0, 507, 56, 508]), (118, .ireturn, 1, 0, 0, .null, []), (119, .aload_n 0, 1, 0, 0, .null, []),
  (120, .bipush (-2), 2, 0, 0, .null, []), (122, .invokevirtual 58, 3, 84, 2, .null, [258, 0, 260, 55, 0]), (125, .ireturn, 1, 0, 0, .null, [])]
/-- SmallerInTheShop panel (II)I -/
def mp_94 : List (Nat × mm_I) := [(0, .iload_n 1, 1, 0, 0, .null, []), (1, .bipush 8, 2, 0, 0, .null, []), (3, .invokestatic 79, 3, 89, 2, .null, [444, 0, 445, 55]), (6, .ifCond .ne 9, 3, 15, 0, .null, []), (9, .aload_n 0, 1, 0, 0, .null, []), (10, .iconst (-1), 1, 0, 0, .null, []),
  (11, .invokevirtual 58, 3, 84, 2, .null, [258, 0, 260, 55, 0]), (14, .ireturn, 1, 0, 0, .null, []), (15, .aload_n 0, 1, 0, 0, .null, []), (16, .getfield 10, 3, 5, 0, .null, [223, 0]), (19, .invokevirtual 92, 3, 73, 1, .null, [556, 0, 520, 56, 521]), (22, .astore_n 3, 1, 0, 0, .null, []),
  (23, .iload_n 2, 1, 0, 0, .null, []), (24, .tableswitch 83 0 5 #[40, 47, 54, 61, 68, 77], 40, 0, 0, .null, []), (64, .aload_n 3, 1, 0, 0, .null, []), (65, .getfield 105, 3, 1, 0, .null, [92, 1]), (68, .iload_n 1, 1, 0, 0, .null, []), (69, .iaload, 1, 0, 0, .null, []),
  (70, .ireturn, 1, 0, 0, .null, []), (71, .aload_n 3, 1, 0, 0, .null, []), (72, .getfield 108, 3, 1, 1, .null, [94, 1]), (75, .iload_n 1, 1, 0, 0, .null, []), (76, .iaload, 1, 0, 0, .null, []), (77, .ireturn, 1, 0, 0, .null, []),
  (78, .aload_n 3, 1, 0, 0, .null, []), (79, .getfield 111, 3, 1, 2, .null, [96, 1]), (82, .iload_n 1, 1, 0, 0, .null, []), (83, .iaload, 1, 0, 0, .null, []), (84, .ireturn, 1, 0, 0, .null, []), (85, .aload_n 3, 1, 0, 0, .null, []),
  (86, .getfield 114, 3, 1, 3, .null, [99, 1]), (89, .iload_n 1, 1, 0, 0, .null, []), (90, .iaload, 1, 0, 0, .null, []), (91, .ireturn, 1, 0, 0, .null, []), (92, .aload_n 3, 1, 0, 0, .null, []), (93, .iload_n 1, 1, 0, 0, .null, []),
  (94, .invokevirtual 117, 3, 31, 2, .null, [562, 0, 563, 57, 564]), (97, .invokestatic 121, 3, 95, 1, .null, [570, 0, 571, 55]), (100, .ireturn, 1, 0, 0, .null, []), (101, .aload_n 3, 1, 0, 0, .null, []), (102, .iload_n 1, 1, 0, 0, .null, []), (103, .invokevirtual 125, 3, 32, 2, .null, [573, 0, 567, 57, 568]),
  (106, .ireturn, 1, 0, 0, .null, []), (107, .aload_n 0, 1, 0, 0, .null, []), (108, .bipush (-2), 2, 0, 0, .null, []), (110, .invokevirtual 58, 3, 84, 2, .null, [258, 0, 260, 55, 0]), (113, .ireturn, 1, 0, 0, .null, [])]
/-- SmallerInTheShop asNumber (Z)I -/
def mp_95 : List (Nat × mm_I) := [(0, .iload_n 0, 1, 0, 0, .null, []), (1, .ifCond .eq 7, 3, 8, 0, .null, []), (4, .iconst 1, 1, 0, 0, .null, []), (5, .goto 4, 3, 9, 0, .null, []), (8, .iconst 0, 1, 0, 0, .null, []), (9, .ireturn, 1, 0, 0, .null, [])]
/-- SmallerInTheShop fold (II)I -/
def mp_96 : List (Nat × mm_I) := [(0, .aload_n 0, 1, 0, 0, .null, []), (1, .iload_n 1, 1, 0, 0, .null, []), (2, .iload_n 2, 1, 0, 0, .null, []), (3, .invokevirtual 128, 3, 97, 3, .null, [578, 0, 580, 55, 15]), (6, .istore_n 3, 1, 0, 0, .null, []), (7, .iload_n 3, 1, 0, 0, .null, []),
  (8, .ifCond .ge 11, 3, 19, 0, .null, []), (11, .aload_n 0, 1, 0, 0, .null, []), (12, .iload_n 3, 1, 0, 0, .null, []), (13, .invokevirtual 58, 3, 84, 2, .null, [258, 0, 260, 55, 0]), (16, .goto 12, 3, 28, 0, .null, []), (19, .aload_n 0, 1, 0, 0, .null, []),
  (20, .getfield 10, 3, 5, 0, .null, [223, 0]), (23, .iload_n 1, 1, 0, 0, .null, []), (24, .iload_n 2, 1, 0, 0, .null, []), (25, .invokevirtual 131, 3, 70, 3, .null, [463, 0, 464, 56, 465]), (28, .ireturn, 1, 0, 0, .null, [])]
/-- SmallerInTheShop refusalOfFold (II)I -/
def mp_97 : List (Nat × mm_I) := [(0, .aload_n 0, 1, 0, 0, .null, []), (1, .getfield 10, 3, 5, 0, .null, [223, 0]), (4, .aload_n 0, 1, 0, 0, .null, []), (5, .getfield 10, 3, 5, 0, .null, [223, 0]), (8, .getfield 137, 3, 4, 4, .null, [142, 1]), (11, .iload_n 1, 1, 0, 0, .null, []),
  (12, .invokevirtual 290, 3, 69, 3, .null, [455, 0, 456, 56, 457]), (15, .ifCond .ne 5, 3, 20, 0, .null, []), (18, .iconst (-1), 1, 0, 0, .null, []), (19, .ireturn, 1, 0, 0, .null, []), (20, .iload_n 2, 1, 0, 0, .null, []), (21, .iconst 4, 1, 0, 0, .null, []),
  (22, .invokestatic 79, 3, 89, 2, .null, [444, 0, 445, 55]), (25, .ifCond .eq 7, 3, 32, 0, .null, []), (28, .iconst 0, 1, 0, 0, .null, []), (29, .goto 5, 3, 34, 0, .null, []), (32, .bipush (-2), 2, 0, 0, .null, []), (34, .ireturn, 1, 0, 0, .null, [])]
/-- SmallerInTheShop opens ()I -/
def mp_98 : List (Nat × mm_I) := [(0, .aload_n 0, 1, 0, 0, .null, []), (1, .getfield 10, 3, 5, 0, .null, [223, 0]), (4, .invokevirtual 134, 3, 76, 1, .null, [538, 0, 539, 56, 540]), (7, .ifCond .eq 13, 3, 20, 0, .null, []), (10, .aload_n 0, 1, 0, 0, .null, []), (11, .getfield 10, 3, 5, 0, .null, [223, 0]),
  (14, .getfield 137, 3, 4, 4, .null, [142, 1]), (17, .goto 9, 3, 26, 0, .null, []), (20, .aload_n 0, 1, 0, 0, .null, []), (21, .bipush (-3), 2, 0, 0, .null, []), (23, .invokevirtual 58, 3, 84, 2, .null, [258, 0, 260, 55, 0]), (26, .ireturn, 1, 0, 0, .null, [])]
/-- SmallerInTheShop wears (II)I -/
def mp_99 : List (Nat × mm_I) := [(0, .iload_n 1, 1, 0, 0, .null, []), (1, .bipush 10, 2, 0, 0, .null, []), (3, .invokestatic 79, 3, 89, 2, .null, [444, 0, 445, 55]), (6, .ifCond .ne 9, 3, 15, 0, .null, []), (9, .aload_n 0, 1, 0, 0, .null, []), (10, .iconst (-1), 1, 0, 0, .null, []),
  (11, .invokevirtual 58, 3, 84, 2, .null, [258, 0, 260, 55, 0]), (14, .ireturn, 1, 0, 0, .null, []), (15, .iload_n 2, 1, 0, 0, .null, []), (16, .ifCond .ge 10, 3, 26, 0, .null, []), (19, .aload_n 0, 1, 0, 0, .null, []), (20, .bipush (-4), 2, 0, 0, .null, []),
  (22, .invokevirtual 58, 3, 84, 2, .null, [258, 0, 260, 55, 0]), (25, .ireturn, 1, 0, 0, .null, []), (26, .iload_n 2, 1, 0, 0, .null, []), (27, .bipush 99, 2, 0, 0, .null, []), (29, .if_icmp .le 10, 3, 39, 0, .null, []), (32, .aload_n 0, 1, 0, 0, .null, []),
  (33, .bipush (-6), 2, 0, 0, .null, []), (35, .invokevirtual 58, 3, 84, 2, .null, [258, 0, 260, 55, 0]), (38, .ireturn, 1, 0, 0, .null, []), (39, .aload_n 0, 1, 0, 0, .null, []), (40, .getfield 10, 3, 5, 0, .null, [223, 0]), (43, .getfield 89, 3, 4, 3, .null, [139, 1]),
  (46, .iload_n 1, 1, 0, 0, .null, []), (47, .iaload, 1, 0, 0, .null, []), (48, .istore_n 3, 1, 0, 0, .null, []), (49, .aload_n 0, 1, 0, 0, .null, []), (50, .getfield 10, 3, 5, 0, .null, [223, 0]), (53, .getfield 89, 3, 4, 3, .null, [139, 1]),
  (56, .iload_n 1, 1, 0, 0, .null, []), (57, .iload_n 2, 1, 0, 0, .null, []), (58, .iastore, 1, 0, 0, .null, []), (59, .iload_n 3, 1, 0, 0, .null, []), (60, .ireturn, 1, 0, 0, .null, [])]
/-- SmallerInTheShop turn (III)I -/
def mp_100 : List (Nat × mm_I) := [(0, .iload_n 1, 1, 0, 0, .null, []), (1, .bipush 10, 2, 0, 0, .null, []), (3, .invokestatic 79, 3, 89, 2, .null, [444, 0, 445, 55]), (6, .ifCond .ne 9, 3, 15, 0, .null, []), (9, .aload_n 0, 1, 0, 0, .null, []), (10, .iconst (-1), 1, 0, 0, .null, []),
  (11, .invokevirtual 58, 3, 84, 2, .null, [258, 0, 260, 55, 0]), (14, .ireturn, 1, 0, 0, .null, []), (15, .iload_n 2, 1, 0, 0, .null, []), (16, .bipush 6, 2, 0, 0, .null, []), (18, .invokestatic 79, 3, 89, 2, .null, [444, 0, 445, 55]), (21, .ifCond .ne 10, 3, 31, 0, .null, []),
  (24, .aload_n 0, 1, 0, 0, .null, []), (25, .bipush (-2), 2, 0, 0, .null, []), (27, .invokevirtual 58, 3, 84, 2, .null, [258, 0, 260, 55, 0]), (30, .ireturn, 1, 0, 0, .null, []), (31, .iload_n 3, 1, 0, 0, .null, []), (32, .ifCond .ge 10, 3, 42, 0, .null, []),
  (35, .aload_n 0, 1, 0, 0, .null, []), (36, .bipush (-4), 2, 0, 0, .null, []), (38, .invokevirtual 58, 3, 84, 2, .null, [258, 0, 260, 55, 0]), (41, .ireturn, 1, 0, 0, .null, []), (42, .iload_n 3, 1, 0, 0, .null, []), (43, .bipush 9, 2, 0, 0, .null, []),
  (45, .if_icmp .le 10, 3, 55, 0, .null, []), (48, .aload_n 0, 1, 0, 0, .null, []), (49, .bipush (-6), 2, 0, 0, .null, []), (51, .invokevirtual 58, 3, 84, 2, .null, [258, 0, 260, 55, 0]), (54, .ireturn, 1, 0, 0, .null, []), (55, .bipush 10, 2, 0, 0, .null, []),
  (57, .aload_n 0, 1, 0, 0, .null, []), (58, .getfield 10, 3, 5, 0, .null, [223, 0]), (61, .getfield 83, 3, 4, 1, .null, [135, 1]), (64, .iload_n 1, 1, 0, 0, .null, []), (65, .iaload, 1, 0, 0, .null, []), (66, .imul, 1, 0, 0, .null, []),
  (67, .aload_n 0, 1, 0, 0, .null, []), (68, .getfield 10, 3, 5, 0, .null, [223, 0]), (71, .getfield 86, 3, 4, 2, .null, [137, 1]), (74, .iload_n 1, 1, 0, 0, .null, []), (75, .iaload, 1, 0, 0, .null, []), (76, .iadd, 1, 0, 0, .null, []),
  (77, .istore 4, 2, 0, 0, .null, []), (79, .aload_n 0, 1, 0, 0, .null, []), (80, .getfield 10, 3, 5, 0, .null, [223, 0]), (83, .getfield 83, 3, 4, 1, .null, [135, 1]), (86, .iload_n 1, 1, 0, 0, .null, []), (87, .iload_n 2, 1, 0, 0, .null, []),
  (88, .iastore, 1, 0, 0, .null, []), (89, .aload_n 0, 1, 0, 0, .null, []), (90, .getfield 10, 3, 5, 0, .null, [223, 0]), (93, .getfield 86, 3, 4, 2, .null, [137, 1]), (96, .iload_n 1, 1, 0, 0, .null, []), (97, .iload_n 3, 1, 0, 0, .null, []),
  (98, .iastore, 1, 0, 0, .null, []), (99, .iload 4, 2, 0, 0, .null, []), (101, .ireturn, 1, 0, 0, .null, [])]
/-- SmallerInTheShop cover (I)I -/
def mp_101 : List (Nat × mm_I) := [(0, .iload_n 1, 1, 0, 0, .null, []), (1, .bipush 8, 2, 0, 0, .null, []), (3, .invokestatic 79, 3, 89, 2, .null, [444, 0, 445, 55]), (6, .ifCond .ne 9, 3, 15, 0, .null, []), (9, .aload_n 0, 1, 0, 0, .null, []), (10, .iconst (-1), 1, 0, 0, .null, []),
  (11, .invokevirtual 58, 3, 84, 2, .null, [258, 0, 260, 55, 0]), (14, .ireturn, 1, 0, 0, .null, []), (15, .aload_n 0, 1, 0, 0, .null, []), (16, .getfield 10, 3, 5, 0, .null, [223, 0]), (19, .getfield 140, 3, 4, 5, .null, [144, 1]), (22, .istore_n 2, 1, 0, 0, .null, []),
  (23, .aload_n 0, 1, 0, 0, .null, []), (24, .getfield 10, 3, 5, 0, .null, [223, 0]), (27, .iload_n 1, 1, 0, 0, .null, []), (28, .putfield 140, 3, 4, 5, .null, [144, 1]), (31, .iload_n 2, 1, 0, 0, .null, []), (32, .ireturn, 1, 0, 0, .null, [])]
/-- SmallerInTheShop hurts (III)I -/
def mp_102 : List (Nat × mm_I) := [(0, .aload_n 0, 1, 0, 0, .null, []), (1, .iload_n 1, 1, 0, 0, .null, []), (2, .iload_n 2, 1, 0, 0, .null, []), (3, .invokevirtual 128, 3, 97, 3, .null, [578, 0, 580, 55, 15]), (6, .istore 4, 2, 0, 0, .null, []), (8, .iload 4, 2, 0, 0, .null, []),
  (10, .ifCond .ge 10, 3, 20, 0, .null, []), (13, .aload_n 0, 1, 0, 0, .null, []), (14, .iload 4, 2, 0, 0, .null, []), (16, .invokevirtual 58, 3, 84, 2, .null, [258, 0, 260, 55, 0]), (19, .ireturn, 1, 0, 0, .null, []), (20, .iload_n 3, 1, 0, 0, .null, []),
  (21, .iconst 3, 1, 0, 0, .null, []), (22, .invokestatic 79, 3, 89, 2, .null, [444, 0, 445, 55]), (25, .ifCond .ne 10, 3, 35, 0, .null, []), (28, .aload_n 0, 1, 0, 0, .null, []), (29, .bipush (-2), 2, 0, 0, .null, []), (31, .invokevirtual 58, 3, 84, 2, .null, [258, 0, 260, 55, 0]),
  (34, .ireturn, 1, 0, 0, .null, []), (35, .aload_n 0, 1, 0, 0, .null, []), (36, .getfield 10, 3, 5, 0, .null, [223, 0]), (39, .aload_n 0, 1, 0, 0, .null, []), (40, .getfield 10, 3, 5, 0, .null, [223, 0]), (43, .getfield 137, 3, 4, 4, .null, [142, 1]),
  (46, .iload_n 1, 1, 0, 0, .null, []), (47, .iload_n 2, 1, 0, 0, .null, []), (48, .invokevirtual 143, 3, 71, 4, .null, [602, 0, 468, 56, 469]), (51, .istore 5, 2, 0, 0, .null, []), (53, .iload_n 3, 1, 0, 0, .null, []), (54, .ifCond .ne 6, 3, 60, 0, .null, []),
  (57, .iload 5, 2, 0, 0, .null, []), (59, .ireturn, 1, 0, 0, .null, []), (60, .aload_n 0, 1, 0, 0, .null, []), (61, .getfield 10, 3, 5, 0, .null, [223, 0]), (64, .getfield 147, 3, 4, 0, .null, [133, 1]), (67, .aload_n 0, 1, 0, 0, .null, []),
  (68, .getfield 10, 3, 5, 0, .null, [223, 0]), (71, .getfield 137, 3, 4, 4, .null, [142, 1]), (74, .iconst 1, 1, 0, 0, .null, []), (75, .iadd, 1, 0, 0, .null, []), (76, .aaload, 1, 0, 0, .null, []), (77, .astore 6, 2, 0, 0, .null, []),
  (79, .iload_n 3, 1, 0, 0, .null, []), (80, .iconst 1, 1, 0, 0, .null, []), (81, .if_icmp .ne 11, 3, 92, 0, .null, []), (84, .aload 6, 2, 0, 0, .null, []), (86, .getfield 151, 3, 1, 8, .null, [110, 1]), (89, .goto 12, 3, 101, 0, .null, []),
  (92, .aload_n 0, 1, 0, 0, .null, []), (93, .getfield 10, 3, 5, 0, .null, [223, 0]), (96, .aload 6, 2, 0, 0, .null, []), (98, .invokevirtual 154, 3, 77, 2, .null, [603, 0, 604, 56, 605]), (101, .ireturn, 1, 0, 0, .null, [])]
/-- SmallerInTheShop over (II)I -/
def mp_103 : List (Nat × mm_I) := [(0, .iload_n 1, 1, 0, 0, .null, []), (1, .iload_n 2, 1, 0, 0, .null, []), (2, .invokestatic 158, 3, 104, 2, .null, [611, 0, 612, 55]), (5, .ifCond .ne 9, 3, 14, 0, .null, []), (8, .aload_n 0, 1, 0, 0, .null, []), (9, .iconst (-1), 1, 0, 0, .null, []),
  (10, .invokevirtual 58, 3, 84, 2, .null, [258, 0, 260, 55, 0]), (13, .ireturn, 1, 0, 0, .null, []), (14, .aload_n 0, 1, 0, 0, .null, []), (15, .getfield 10, 3, 5, 0, .null, [223, 0]), (18, .invokevirtual 92, 3, 73, 1, .null, [556, 0, 520, 56, 521]), (21, .iload_n 1, 1, 0, 0, .null, []),
  (22, .iload_n 2, 1, 0, 0, .null, []), (23, .invokevirtual 161, 3, 33, 3, .null, [614, 0, 615, 57, 616]), (26, .invokestatic 121, 3, 95, 1, .null, [570, 0, 571, 55]), (29, .ireturn, 1, 0, 0, .null, [])]
/-- SmallerInTheShop arePair (II)Z -/
def mp_104 : List (Nat × mm_I) := [(0, .iload_n 0, 1, 0, 0, .null, []), (1, .bipush 8, 2, 0, 0, .null, []), (3, .invokestatic 79, 3, 89, 2, .null, [444, 0, 445, 55]), (6, .ifCond .eq 21, 3, 27, 0, .null, []), (9, .iload_n 1, 1, 0, 0, .null, []), (10, .bipush 8, 2, 0, 0, .null, []),
  (12, .invokestatic 79, 3, 89, 2, .null, [444, 0, 445, 55]), (15, .ifCond .eq 12, 3, 27, 0, .null, []), (18, .iload_n 0, 1, 0, 0, .null, []), (19, .iload_n 1, 1, 0, 0, .null, []), (20, .if_icmp .eq 7, 3, 27, 0, .null, []), (23, .iconst 1, 1, 0, 0, .null, []),
  (24, .goto 4, 3, 28, 0, .null, []), (27, .iconst 0, 1, 0, 0, .null, []), (28, .ireturn, 1, 0, 0, .null, [])]
/-- SmallerInTheShop wad (I)I -/
def mp_105 : List (Nat × mm_I) := [(0, .aload_n 0, 1, 0, 0, .null, []), (1, .getfield 10, 3, 5, 0, .null, [223, 0]), (4, .invokevirtual 92, 3, 73, 1, .null, [556, 0, 520, 56, 521]), (7, .astore_n 2, 1, 0, 0, .null, []), (8, .iload_n 1, 1, 0, 0, .null, []), (9, .tableswitch 95 0 6 #[43, 48, 53, 58, 63, 78, 86], 43, 0, 0, .null, []),
  (52, .aload_n 2, 1, 0, 0, .null, []), (53, .getfield 164, 3, 1, 6, .null, [105, 1]), (56, .ireturn, 1, 0, 0, .null, []), (57, .aload_n 2, 1, 0, 0, .null, []), (58, .getfield 167, 3, 1, 7, .null, [107, 1]), (61, .ireturn, 1, 0, 0, .null, []),
  (62, .aload_n 2, 1, 0, 0, .null, []), (63, .invokevirtual 170, 3, 34, 1, .null, [622, 0, 623, 57, 624]), (66, .ireturn, 1, 0, 0, .null, []), (67, .aload_n 2, 1, 0, 0, .null, []), (68, .invokevirtual 173, 3, 35, 1, .null, [626, 0, 627, 57, 628]), (71, .ireturn, 1, 0, 0, .null, []),
  (72, .aload_n 2, 1, 0, 0, .null, []), (73, .aload_n 0, 1, 0, 0, .null, []), (74, .getfield 10, 3, 5, 0, .null, [223, 0]), (77, .getfield 140, 3, 4, 5, .null, [144, 1]), (80, .invokevirtual 176, 3, 36, 2, .null, [631, 0, 632, 57, 633]), (83, .invokestatic 121, 3, 95, 1, .null, [570, 0, 571, 55]),
  (86, .ireturn, 1, 0, 0, .null, []), (87, .aload_n 0, 1, 0, 0, .null, []), (88, .getfield 10, 3, 5, 0, .null, [223, 0]), (91, .getfield 137, 3, 4, 4, .null, [142, 1]), (94, .ireturn, 1, 0, 0, .null, []), (95, .sipush 1023, 3, 0, 0, .null, []),
  (98, .aload_n 2, 1, 0, 0, .null, []), (99, .invokevirtual 179, 3, 37, 1, .null, [635, 0, 636, 57, 637]), (102, .isub, 1, 0, 0, .null, []), (103, .ireturn, 1, 0, 0, .null, []), (104, .aload_n 0, 1, 0, 0, .null, []), (105, .bipush (-2), 2, 0, 0, .null, []),
  (107, .invokevirtual 58, 3, 84, 2, .null, [258, 0, 260, 55, 0]), (110, .ireturn, 1, 0, 0, .null, [])]
/-- SmallerInTheShop shut (I)I -/
def mp_106 : List (Nat × mm_I) := [(0, .iload_n 1, 1, 0, 0, .null, []), (1, .iconst 3, 1, 0, 0, .null, []), (2, .invokestatic 79, 3, 89, 2, .null, [444, 0, 445, 55]), (5, .ifCond .ne 10, 3, 15, 0, .null, []), (8, .aload_n 0, 1, 0, 0, .null, []), (9, .bipush (-2), 2, 0, 0, .null, []),
  (11, .invokevirtual 58, 3, 84, 2, .null, [258, 0, 260, 55, 0]), (14, .ireturn, 1, 0, 0, .null, []), (15, .aload_n 0, 1, 0, 0, .null, []), (16, .getfield 25, 3, 5, 3, .null, [226, 0]), (19, .iload_n 1, 1, 0, 0, .null, []), (20, .iconst 2, 1, 0, 0, .null, []),
  (21, .if_icmp .ne 7, 3, 28, 0, .null, []), (24, .iconst 1, 1, 0, 0, .null, []), (25, .goto 4, 3, 29, 0, .null, []), (28, .iconst 0, 1, 0, 0, .null, []), (29, .invokevirtual 182, 3, 54, 2, .null, [643, 0, 644, 58, 645]), (32, .aload_n 0, 1, 0, 0, .null, []),
  (33, .getfield 25, 3, 5, 3, .null, [226, 0]), (36, .aload_n 0, 1, 0, 0, .null, []), (37, .getfield 10, 3, 5, 0, .null, [223, 0]), (40, .invokevirtual 186, 3, 55, 2, .null, [647, 0, 648, 58, 649]), (43, .iload_n 1, 1, 0, 0, .null, []), (44, .ifCond .ne 13, 3, 57, 0, .null, []),
  (47, .aload_n 0, 1, 0, 0, .null, []), (48, .getfield 25, 3, 5, 3, .null, [226, 0]), (51, .invokevirtual 190, 3, 63, 1, .null, [697, 0, 698, 58, 699]), (54, .goto 10, 3, 64, 0, .null, []), (57, .aload_n 0, 1, 0, 0, .null, []), (58, .getfield 25, 3, 5, 3, .null, [226, 0]),
  (61, .invokevirtual 193, 3, 64, 1, .null, [701, 0, 702, 58, 703]), (64, .ireturn, 1, 0, 0, .null, [])]
/-- SmallerInTheShop ways (I)I -/
def mp_107 : List (Nat × mm_I) := [(0, .iload_n 1, 1, 0, 0, .null, []), (1, .ifCond .ge 10, 3, 11, 0, .null, []), (4, .aload_n 0, 1, 0, 0, .null, []), (5, .bipush (-4), 2, 0, 0, .null, []), (7, .invokevirtual 58, 3, 84, 2, .null, [258, 0, 260, 55, 0]), (10, .ireturn, 1, 0, 0, .null, []),
  (11, .iload_n 1, 1, 0, 0, .null, []), (12, .iconst 4, 1, 0, 0, .null, []), (13, .if_icmp .le 10, 3, 23, 0, .null, []), (16, .aload_n 0, 1, 0, 0, .null, []), (17, .bipush (-6), 2, 0, 0, .null, []), (19, .invokevirtual 58, 3, 84, 2, .null, [258, 0, 260, 55, 0]),
  (22, .ireturn, 1, 0, 0, .null, []), (23, .aload_n 0, 1, 0, 0, .null, []), (24, .getfield 25, 3, 5, 3, .null, [226, 0]), (27, .iconst 1, 1, 0, 0, .null, []), (28, .invokevirtual 182, 3, 54, 2, .null, [643, 0, 644, 58, 645]), (31, .aload_n 0, 1, 0, 0, .null, []),
  (32, .getfield 25, 3, 5, 3, .null, [226, 0]), (35, .aload_n 0, 1, 0, 0, .null, []), (36, .getfield 10, 3, 5, 0, .null, [223, 0]), (39, .invokevirtual 186, 3, 55, 2, .null, [647, 0, 648, 58, 649]), (42, .aload_n 0, 1, 0, 0, .null, []), (43, .getfield 25, 3, 5, 3, .null, [226, 0]),
  (46, .iload_n 1, 1, 0, 0, .null, []), (47, .invokevirtual 196, 3, 65, 2, .null, [709, 0, 710, 58, 711]), (50, .ireturn, 1, 0, 0, .null, [])]
/-- SmallerInTheShop up (IIII)I -/
def mp_108 : List (Nat × mm_I) := [(0, .iload_n 1, 1, 0, 0, .null, []), (1, .iload_n 2, 1, 0, 0, .null, []), (2, .invokestatic 158, 3, 104, 2, .null, [611, 0, 612, 55]), (5, .ifCond .ne 9, 3, 14, 0, .null, []), (8, .aload_n 0, 1, 0, 0, .null, []), (9, .iconst (-1), 1, 0, 0, .null, []),
  (10, .invokevirtual 58, 3, 84, 2, .null, [258, 0, 260, 55, 0]), (13, .ireturn, 1, 0, 0, .null, []), (14, .iload_n 3, 1, 0, 0, .null, []), (15, .iconst 1, 1, 0, 0, .null, []), (16, .if_icmp .ge 10, 3, 26, 0, .null, []), (19, .aload_n 0, 1, 0, 0, .null, []),
  (20, .bipush (-4), 2, 0, 0, .null, []), (22, .invokevirtual 58, 3, 84, 2, .null, [258, 0, 260, 55, 0]), (25, .ireturn, 1, 0, 0, .null, []), (26, .iload_n 3, 1, 0, 0, .null, []), (27, .bipush 8, 2, 0, 0, .null, []), (29, .if_icmp .le 10, 3, 39, 0, .null, []),
  (32, .aload_n 0, 1, 0, 0, .null, []), (33, .bipush (-6), 2, 0, 0, .null, []), (35, .invokevirtual 58, 3, 84, 2, .null, [258, 0, 260, 55, 0]), (38, .ireturn, 1, 0, 0, .null, []), (39, .iload 4, 2, 0, 0, .null, []), (41, .iconst 2, 1, 0, 0, .null, []),
  (42, .invokestatic 79, 3, 89, 2, .null, [444, 0, 445, 55]), (45, .ifCond .ne 10, 3, 55, 0, .null, []), (48, .aload_n 0, 1, 0, 0, .null, []), (49, .bipush (-2), 2, 0, 0, .null, []), (51, .invokevirtual 58, 3, 84, 2, .null, [258, 0, 260, 55, 0]), (54, .ireturn, 1, 0, 0, .null, []),
  (55, .aload_n 0, 1, 0, 0, .null, []), (56, .getfield 25, 3, 5, 3, .null, [226, 0]), (59, .iconst 2, 1, 0, 0, .null, []), (60, .invokevirtual 182, 3, 54, 2, .null, [643, 0, 644, 58, 645]), (63, .aload_n 0, 1, 0, 0, .null, []), (64, .getfield 25, 3, 5, 3, .null, [226, 0]),
  (67, .iload_n 3, 1, 0, 0, .null, []), (68, .putfield 199, 3, 3, 3, .null, [170, 1]), (71, .aload_n 0, 1, 0, 0, .null, []), (72, .getfield 25, 3, 5, 3, .null, [226, 0]), (75, .iconst 1, 1, 0, 0, .null, []), (76, .iload_n 1, 1, 0, 0, .null, []),
  (77, .ishl, 1, 0, 0, .null, []), (78, .iconst 1, 1, 0, 0, .null, []), (79, .iload_n 2, 1, 0, 0, .null, []), (80, .ishl, 1, 0, 0, .null, []), (81, .ior, 1, 0, 0, .null, []), (82, .putfield 202, 3, 3, 4, .null, [172, 1]),
  (85, .aload_n 0, 1, 0, 0, .null, []), (86, .getfield 25, 3, 5, 3, .null, [226, 0]), (89, .aload_n 0, 1, 0, 0, .null, []), (90, .getfield 10, 3, 5, 0, .null, [223, 0]), (93, .invokevirtual 186, 3, 55, 2, .null, [647, 0, 648, 58, 649]), (96, .iload 4, 2, 0, 0, .null, []),
  (98, .ifCond .ne 13, 3, 111, 0, .null, []), (101, .aload_n 0, 1, 0, 0, .null, []), (102, .getfield 25, 3, 5, 3, .null, [226, 0]), (105, .invokevirtual 190, 3, 63, 1, .null, [697, 0, 698, 58, 699]), (108, .goto 10, 3, 118, 0, .null, []), (111, .aload_n 0, 1, 0, 0, .null, []),
  (112, .getfield 25, 3, 5, 3, .null, [226, 0]), (115, .invokevirtual 193, 3, 64, 1, .null, [701, 0, 702, 58, 703]), (118, .ireturn, 1, 0, 0, .null, [])]
/-- SmallerInTheShop most (III)I -/
def mp_109 : List (Nat × mm_I) := [(0, .iload_n 1, 1, 0, 0, .null, []), (1, .ifCond .lt 8, 3, 9, 0, .null, []), (4, .iload_n 2, 1, 0, 0, .null, []), (5, .iconst 1, 1, 0, 0, .null, []), (6, .if_icmp .ge 10, 3, 16, 0, .null, []), (9, .aload_n 0, 1, 0, 0, .null, []),
  (10, .bipush (-4), 2, 0, 0, .null, []), (12, .invokevirtual 58, 3, 84, 2, .null, [258, 0, 260, 55, 0]), (15, .ireturn, 1, 0, 0, .null, []), (16, .iload_n 1, 1, 0, 0, .null, []), (17, .sipush 255, 3, 0, 0, .null, []), (20, .if_icmp .gt 9, 3, 29, 0, .null, []),
  (23, .iload_n 2, 1, 0, 0, .null, []), (24, .bipush 8, 2, 0, 0, .null, []), (26, .if_icmp .le 10, 3, 36, 0, .null, []), (29, .aload_n 0, 1, 0, 0, .null, []), (30, .bipush (-6), 2, 0, 0, .null, []), (32, .invokevirtual 58, 3, 84, 2, .null, [258, 0, 260, 55, 0]),
  (35, .ireturn, 1, 0, 0, .null, []), (36, .iload_n 3, 1, 0, 0, .null, []), (37, .iconst 2, 1, 0, 0, .null, []), (38, .invokestatic 79, 3, 89, 2, .null, [444, 0, 445, 55]), (41, .ifCond .ne 10, 3, 51, 0, .null, []), (44, .aload_n 0, 1, 0, 0, .null, []),
  (45, .bipush (-2), 2, 0, 0, .null, []), (47, .invokevirtual 58, 3, 84, 2, .null, [258, 0, 260, 55, 0]), (50, .ireturn, 1, 0, 0, .null, []), (51, .aload_n 0, 1, 0, 0, .null, []), (52, .getfield 25, 3, 5, 3, .null, [226, 0]), (55, .iconst 3, 1, 0, 0, .null, []),
  (56, .invokevirtual 182, 3, 54, 2, .null, [643, 0, 644, 58, 645]), (59, .aload_n 0, 1, 0, 0, .null, []), (60, .getfield 25, 3, 5, 3, .null, [226, 0]), (63, .iload_n 2, 1, 0, 0, .null, []), (64, .putfield 199, 3, 3, 3, .null, [170, 1]), (67, .aload_n 0, 1, 0, 0, .null, []),
  (68, .getfield 25, 3, 5, 3, .null, [226, 0]), (71, .iload_n 1, 1, 0, 0, .null, []), (72, .putfield 202, 3, 3, 4, .null, [172, 1]), (75, .aload_n 0, 1, 0, 0, .null, []), (76, .getfield 25, 3, 5, 3, .null, [226, 0]), (79, .aload_n 0, 1, 0, 0, .null, []),
  (80, .getfield 10, 3, 5, 0, .null, [223, 0]), (83, .invokevirtual 186, 3, 55, 2, .null, [647, 0, 648, 58, 649]), (86, .iload_n 3, 1, 0, 0, .null, []), (87, .iconst 1, 1, 0, 0, .null, []), (88, .if_icmp .eq 13, 3, 101, 0, .null, []), (91, .aload_n 0, 1, 0, 0, .null, []),
  (92, .getfield 25, 3, 5, 3, .null, [226, 0]), (95, .getfield 205, 3, 3, 5, .null, [174, 1]), (98, .ifCond .ne 11, 3, 109, 0, .null, []), (101, .aload_n 0, 1, 0, 0, .null, []), (102, .getfield 25, 3, 5, 3, .null, [226, 0]), (105, .invokevirtual 190, 3, 63, 1, .null, [697, 0, 698, 58, 699]),
  (108, .ireturn, 1, 0, 0, .null, []), (109, .bipush 8, 2, 0, 0, .null, []), (111, .aload_n 0, 1, 0, 0, .null, []), (112, .getfield 25, 3, 5, 3, .null, [226, 0]), (115, .invokevirtual 193, 3, 64, 1, .null, [701, 0, 702, 58, 703]), (118, .isub, 1, 0, 0, .null, []),
  (119, .ireturn, 1, 0, 0, .null, [])]
/-- SmallerInTheShop layers ()I -/
def mp_110 : List (Nat × mm_I) := [(0, .aload_n 0, 1, 0, 0, .null, []), (1, .invokevirtual 208, 3, 111, 1, .null, [725, 0, 727, 55, 23]), (4, .ifCond .ne 6, 3, 10, 0, .null, []), (7, .bipush (-9), 2, 0, 0, .null, []), (9, .ireturn, 1, 0, 0, .null, []), (10, .aload_n 0, 1, 0, 0, .null, []),
  (11, .getfield 25, 3, 5, 3, .null, [226, 0]), (14, .iconst 4, 1, 0, 0, .null, []), (15, .invokevirtual 182, 3, 54, 2, .null, [643, 0, 644, 58, 645]), (18, .iconst 0, 1, 0, 0, .null, []), (19, .istore_n 1, 1, 0, 0, .null, []), (20, .iload_n 1, 1, 0, 0, .null, []),
  (21, .bipush 8, 2, 0, 0, .null, []), (23, .if_icmp .ge 27, 3, 50, 0, .null, []), (26, .aload_n 0, 1, 0, 0, .null, []), (27, .getfield 25, 3, 5, 3, .null, [226, 0]), (30, .getfield 211, 3, 3, 0, .null, [166, 1]), (33, .aload_n 0, 1, 0, 0, .null, []),
  (34, .getfield 43, 3, 5, 6, .null, [229, 0]), (37, .iload_n 1, 1, 0, 0, .null, []), (38, .iaload, 1, 0, 0, .null, []), (39, .bipush 7, 2, 0, 0, .null, []), (41, .iload_n 1, 1, 0, 0, .null, []), (42, .isub, 1, 0, 0, .null, []),
  (43, .iastore, 1, 0, 0, .null, []), (44, .iinc 1 1, 3, 0, 0, .null, []), (47, .goto (-27), 3, 20, 0, .null, []), (50, .aload_n 0, 1, 0, 0, .null, []), (51, .getfield 25, 3, 5, 3, .null, [226, 0]), (54, .aload_n 0, 1, 0, 0, .null, []),
  (55, .getfield 10, 3, 5, 0, .null, [223, 0]), (58, .invokevirtual 186, 3, 55, 2, .null, [647, 0, 648, 58, 649]), (61, .aload_n 0, 1, 0, 0, .null, []), (62, .getfield 25, 3, 5, 3, .null, [226, 0]), (65, .invokevirtual 190, 3, 63, 1, .null, [697, 0, 698, 58, 699]), (68, .ireturn, 1, 0, 0, .null, [])]
/-- SmallerInTheShop tellsAllPanels ()Z -/
def mp_111 : List (Nat × mm_I) := [(0, .aload_n 0, 1, 0, 0, .null, []), (1, .getfield 50, 3, 5, 8, .null, [231, 0]), (4, .bipush 8, 2, 0, 0, .null, []), (6, .if_icmp .eq 5, 3, 11, 0, .null, []), (9, .iconst 0, 1, 0, 0, .null, []), (10, .ireturn, 1, 0, 0, .null, []),
  (11, .iconst 0, 1, 0, 0, .null, []), (12, .istore_n 1, 1, 0, 0, .null, []), (13, .iconst 0, 1, 0, 0, .null, []), (14, .istore_n 2, 1, 0, 0, .null, []), (15, .iload_n 2, 1, 0, 0, .null, []), (16, .bipush 8, 2, 0, 0, .null, []),
  (18, .if_icmp .ge 36, 3, 54, 0, .null, []), (21, .aload_n 0, 1, 0, 0, .null, []), (22, .getfield 43, 3, 5, 6, .null, [229, 0]), (25, .iload_n 2, 1, 0, 0, .null, []), (26, .iaload, 1, 0, 0, .null, []), (27, .bipush 8, 2, 0, 0, .null, []),
  (29, .invokestatic 79, 3, 89, 2, .null, [444, 0, 445, 55]), (32, .ifCond .ne 5, 3, 37, 0, .null, []), (35, .iconst 0, 1, 0, 0, .null, []), (36, .ireturn, 1, 0, 0, .null, []), (37, .iload_n 1, 1, 0, 0, .null, []), (38, .iconst 1, 1, 0, 0, .null, []),
  (39, .aload_n 0, 1, 0, 0, .null, []), (40, .getfield 43, 3, 5, 6, .null, [229, 0]), (43, .iload_n 2, 1, 0, 0, .null, []), (44, .iaload, 1, 0, 0, .null, []), (45, .ishl, 1, 0, 0, .null, []), (46, .ior, 1, 0, 0, .null, []),
  (47, .istore_n 1, 1, 0, 0, .null, []), (48, .iinc 2 1, 3, 0, 0, .null, []), (51, .goto (-36), 3, 15, 0, .null, []), (54, .iload_n 1, 1, 0, 0, .null, []), (55, .sipush 255, 3, 0, 0, .null, []), (58, .if_icmp .ne 7, 3, 65, 0, .null, []),
  (61, .iconst 1, 1, 0, 0, .null, []), (62, .goto 4, 3, 66, 0, .null, []), (65, .iconst 0, 1, 0, 0, .null, []), (66, .ireturn, 1, 0, 0, .null, [])]
/-- SmallerInTheShop lasts (II)I -/
def mp_112 : List (Nat × mm_I) := [(0, .aload_n 0, 1, 0, 0, .null, []), (1, .iload_n 1, 1, 0, 0, .null, []), (2, .iload_n 2, 1, 0, 0, .null, []), (3, .invokevirtual 128, 3, 97, 3, .null, [578, 0, 580, 55, 15]), (6, .istore_n 3, 1, 0, 0, .null, []), (7, .iload_n 3, 1, 0, 0, .null, []),
  (8, .ifCond .ge 9, 3, 17, 0, .null, []), (11, .aload_n 0, 1, 0, 0, .null, []), (12, .iload_n 3, 1, 0, 0, .null, []), (13, .invokevirtual 58, 3, 84, 2, .null, [258, 0, 260, 55, 0]), (16, .ireturn, 1, 0, 0, .null, []), (17, .aload_n 0, 1, 0, 0, .null, []),
  (18, .getfield 10, 3, 5, 0, .null, [223, 0]), (21, .aload_n 0, 1, 0, 0, .null, []), (22, .getfield 10, 3, 5, 0, .null, [223, 0]), (25, .getfield 137, 3, 4, 4, .null, [142, 1]), (28, .iload_n 1, 1, 0, 0, .null, []), (29, .iload_n 2, 1, 0, 0, .null, []),
  (30, .invokevirtual 143, 3, 71, 4, .null, [602, 0, 468, 56, 469]), (33, .pop, 1, 0, 0, .null, []), (34, .aload_n 0, 1, 0, 0, .null, []), (35, .getfield 19, 3, 5, 2, .null, [225, 0]), (38, .aload_n 0, 1, 0, 0, .null, []), (39, .getfield 10, 3, 5, 0, .null, [223, 0]),
  (42, .invokevirtual 214, 3, 68, 2, .null, [733, 0, 420, 56, 421]), (45, .aload_n 0, 1, 0, 0, .null, []), (46, .getfield 19, 3, 5, 2, .null, [225, 0]), (49, .aload_n 0, 1, 0, 0, .null, []), (50, .getfield 10, 3, 5, 0, .null, [223, 0]), (53, .getfield 147, 3, 4, 0, .null, [133, 1]),
  (56, .aload_n 0, 1, 0, 0, .null, []), (57, .getfield 10, 3, 5, 0, .null, [223, 0]), (60, .getfield 137, 3, 4, 4, .null, [142, 1]), (63, .iconst 1, 1, 0, 0, .null, []), (64, .iadd, 1, 0, 0, .null, []), (65, .aaload, 1, 0, 0, .null, []),
  (66, .invokevirtual 217, 3, 78, 2, .null, [734, 0, 735, 56, 736]), (69, .ireturn, 1, 0, 0, .null, [])]
/-- SmallerInTheShop tape (II)I -/
def mp_113 : List (Nat × mm_I) := [(0, .aload_n 0, 1, 0, 0, .null, []), (1, .iload_n 1, 1, 0, 0, .null, []), (2, .iload_n 2, 1, 0, 0, .null, []), (3, .invokevirtual 128, 3, 97, 3, .null, [578, 0, 580, 55, 15]), (6, .istore_n 3, 1, 0, 0, .null, []), (7, .iload_n 3, 1, 0, 0, .null, []),
  (8, .ifCond .ge 9, 3, 17, 0, .null, []), (11, .aload_n 0, 1, 0, 0, .null, []), (12, .iload_n 3, 1, 0, 0, .null, []), (13, .invokevirtual 58, 3, 84, 2, .null, [258, 0, 260, 55, 0]), (16, .ireturn, 1, 0, 0, .null, []), (17, .aload_n 0, 1, 0, 0, .null, []),
  (18, .getfield 10, 3, 5, 0, .null, [223, 0]), (21, .aload_n 0, 1, 0, 0, .null, []), (22, .getfield 10, 3, 5, 0, .null, [223, 0]), (25, .getfield 137, 3, 4, 4, .null, [142, 1]), (28, .iload_n 1, 1, 0, 0, .null, []), (29, .iload_n 2, 1, 0, 0, .null, []),
  (30, .invokevirtual 143, 3, 71, 4, .null, [602, 0, 468, 56, 469]), (33, .pop, 1, 0, 0, .null, []), (34, .aload_n 0, 1, 0, 0, .null, []), (35, .getfield 10, 3, 5, 0, .null, [223, 0]), (38, .getfield 147, 3, 4, 0, .null, [133, 1]), (41, .aload_n 0, 1, 0, 0, .null, []),
  (42, .getfield 10, 3, 5, 0, .null, [223, 0]), (45, .getfield 137, 3, 4, 4, .null, [142, 1]), (48, .iconst 1, 1, 0, 0, .null, []), (49, .iadd, 1, 0, 0, .null, []), (50, .aaload, 1, 0, 0, .null, []), (51, .astore 4, 2, 0, 0, .null, []),
  (53, .aload_n 0, 1, 0, 0, .null, []), (54, .getfield 19, 3, 5, 2, .null, [225, 0]), (57, .aload_n 0, 1, 0, 0, .null, []), (58, .getfield 10, 3, 5, 0, .null, [223, 0]), (61, .invokevirtual 214, 3, 68, 2, .null, [733, 0, 420, 56, 421]), (64, .aload_n 0, 1, 0, 0, .null, []),
  (65, .getfield 19, 3, 5, 2, .null, [225, 0]), (68, .aload 4, 2, 0, 0, .null, []), (70, .invokevirtual 217, 3, 78, 2, .null, [734, 0, 735, 56, 736]), (73, .istore 5, 2, 0, 0, .null, []), (75, .bipush (-9), 2, 0, 0, .null, []), (77, .istore 6, 2, 0, 0, .null, []),
  (79, .iconst 0, 1, 0, 0, .null, []), (80, .istore 7, 2, 0, 0, .null, []), (82, .iload 7, 2, 0, 0, .null, []), (84, .bipush 10, 2, 0, 0, .null, []), (86, .if_icmp .ge 57, 3, 143, 0, .null, []), (89, .aload_n 0, 1, 0, 0, .null, []),
  (90, .getfield 19, 3, 5, 2, .null, [225, 0]), (93, .aload_n 0, 1, 0, 0, .null, []), (94, .getfield 10, 3, 5, 0, .null, [223, 0]), (97, .invokevirtual 214, 3, 68, 2, .null, [733, 0, 420, 56, 421]), (100, .aload_n 0, 1, 0, 0, .null, []), (101, .getfield 19, 3, 5, 2, .null, [225, 0]),
  (104, .getfield 83, 3, 4, 1, .null, [135, 1]), (107, .iload 7, 2, 0, 0, .null, []), (109, .iconst 4, 1, 0, 0, .null, []), (110, .iastore, 1, 0, 0, .null, []), (111, .aload_n 0, 1, 0, 0, .null, []), (112, .getfield 19, 3, 5, 2, .null, [225, 0]),
  (115, .aload 4, 2, 0, 0, .null, []), (117, .invokevirtual 217, 3, 78, 2, .null, [734, 0, 735, 56, 736]), (120, .istore 8, 2, 0, 0, .null, []), (122, .iload 8, 2, 0, 0, .null, []), (124, .iload 5, 2, 0, 0, .null, []), (126, .if_icmp .le 11, 3, 137, 0, .null, []),
  (129, .iload 8, 2, 0, 0, .null, []), (131, .istore 5, 2, 0, 0, .null, []), (133, .iload 7, 2, 0, 0, .null, []), (135, .istore 6, 2, 0, 0, .null, []), (137, .iinc 7 1, 3, 0, 0, .null, []), (140, .goto (-58), 3, 82, 0, .null, []),
  (143, .iload 6, 2, 0, 0, .null, []), (145, .ireturn, 1, 0, 0, .null, [])]
/-- SmallerInTheShop first (IIII)I -/
def mp_114 : List (Nat × mm_I) := [(0, .iload_n 1, 1, 0, 0, .null, []), (1, .invokestatic 220, 3, 115, 1, .null, [754, 0, 755, 55]), (4, .ifCond .eq 10, 3, 14, 0, .null, []), (7, .iload_n 3, 1, 0, 0, .null, []), (8, .invokestatic 220, 3, 115, 1, .null, [754, 0, 755, 55]), (11, .ifCond .ne 9, 3, 20, 0, .null, []),
  (14, .aload_n 0, 1, 0, 0, .null, []), (15, .iconst (-1), 1, 0, 0, .null, []), (16, .invokevirtual 58, 3, 84, 2, .null, [258, 0, 260, 55, 0]), (19, .ireturn, 1, 0, 0, .null, []), (20, .iload_n 2, 1, 0, 0, .null, []), (21, .iconst 4, 1, 0, 0, .null, []),
  (22, .invokestatic 79, 3, 89, 2, .null, [444, 0, 445, 55]), (25, .ifCond .eq 12, 3, 37, 0, .null, []), (28, .iload 4, 2, 0, 0, .null, []), (30, .iconst 4, 1, 0, 0, .null, []), (31, .invokestatic 79, 3, 89, 2, .null, [444, 0, 445, 55]), (34, .ifCond .ne 10, 3, 44, 0, .null, []),
  (37, .aload_n 0, 1, 0, 0, .null, []), (38, .bipush (-2), 2, 0, 0, .null, []), (40, .invokevirtual 58, 3, 84, 2, .null, [258, 0, 260, 55, 0]), (43, .ireturn, 1, 0, 0, .null, []), (44, .aload_n 0, 1, 0, 0, .null, []), (45, .iload_n 1, 1, 0, 0, .null, []),
  (46, .iload_n 2, 1, 0, 0, .null, []), (47, .iload_n 3, 1, 0, 0, .null, []), (48, .iload 4, 2, 0, 0, .null, []), (50, .invokevirtual 223, 3, 116, 5, .null, [757, 0, 759, 55, 24]), (53, .istore 5, 2, 0, 0, .null, []), (55, .aload_n 0, 1, 0, 0, .null, []),
  (56, .iload_n 3, 1, 0, 0, .null, []), (57, .iload 4, 2, 0, 0, .null, []), (59, .iload_n 1, 1, 0, 0, .null, []), (60, .iload_n 2, 1, 0, 0, .null, []), (61, .invokevirtual 223, 3, 116, 5, .null, [757, 0, 759, 55, 24]), (64, .istore 6, 2, 0, 0, .null, []),
  (66, .iload 5, 2, 0, 0, .null, []), (68, .iload 6, 2, 0, 0, .null, []), (70, .if_icmp .ne 6, 3, 76, 0, .null, []), (73, .bipush (-9), 2, 0, 0, .null, []), (75, .ireturn, 1, 0, 0, .null, []), (76, .iload 5, 2, 0, 0, .null, []),
  (78, .ifCond .ge 5, 3, 83, 0, .null, []), (81, .iconst 1, 1, 0, 0, .null, []), (82, .ireturn, 1, 0, 0, .null, []), (83, .iload 6, 2, 0, 0, .null, []), (85, .ifCond .lt 10, 3, 95, 0, .null, []), (88, .iload 5, 2, 0, 0, .null, []),
  (90, .iload 6, 2, 0, 0, .null, []), (92, .if_icmp .ge 7, 3, 99, 0, .null, []), (95, .iconst 0, 1, 0, 0, .null, []), (96, .goto 4, 3, 100, 0, .null, []), (99, .iconst 1, 1, 0, 0, .null, []), (100, .ireturn, 1, 0, 0, .null, [])]
/-- SmallerInTheShop isLine (I)Z -/
def mp_115 : List (Nat × mm_I) := [(0, .iload_n 0, 1, 0, 0, .null, []), (1, .iconst 1, 1, 0, 0, .null, []), (2, .if_icmp .lt 12, 3, 14, 0, .null, []), (5, .iload_n 0, 1, 0, 0, .null, []), (6, .iconst 4, 1, 0, 0, .null, []), (7, .if_icmp .gt 7, 3, 14, 0, .null, []),
  (10, .iconst 1, 1, 0, 0, .null, []), (11, .goto 4, 3, 15, 0, .null, []), (14, .iconst 0, 1, 0, 0, .null, []), (15, .ireturn, 1, 0, 0, .null, [])]
/-- SmallerInTheShop effortOfTwo (IIII)I -/
def mp_116 : List (Nat × mm_I) := [(0, .aload_n 0, 1, 0, 0, .null, []), (1, .getfield 10, 3, 5, 0, .null, [223, 0]), (4, .getfield 137, 3, 4, 4, .null, [142, 1]), (7, .istore 5, 2, 0, 0, .null, []), (9, .aload_n 0, 1, 0, 0, .null, []), (10, .getfield 10, 3, 5, 0, .null, [223, 0]),
  (13, .iload 5, 2, 0, 0, .null, []), (15, .iload_n 1, 1, 0, 0, .null, []), (16, .invokevirtual 290, 3, 69, 3, .null, [455, 0, 456, 56, 457]), (19, .ifCond .ne 5, 3, 24, 0, .null, []), (22, .iconst (-1), 1, 0, 0, .null, []), (23, .ireturn, 1, 0, 0, .null, []),
  (24, .aload_n 0, 1, 0, 0, .null, []), (25, .getfield 10, 3, 5, 0, .null, [223, 0]), (28, .iload 5, 2, 0, 0, .null, []), (30, .iload_n 1, 1, 0, 0, .null, []), (31, .iload_n 2, 1, 0, 0, .null, []), (32, .invokevirtual 143, 3, 71, 4, .null, [602, 0, 468, 56, 469]),
  (35, .istore 6, 2, 0, 0, .null, []), (37, .aload_n 0, 1, 0, 0, .null, []), (38, .getfield 10, 3, 5, 0, .null, [223, 0]), (41, .iload 5, 2, 0, 0, .null, []), (43, .iconst 1, 1, 0, 0, .null, []), (44, .iadd, 1, 0, 0, .null, []),
  (45, .iload_n 3, 1, 0, 0, .null, []), (46, .invokevirtual 290, 3, 69, 3, .null, [455, 0, 456, 56, 457]), (49, .ifCond .ne 5, 3, 54, 0, .null, []), (52, .iconst (-1), 1, 0, 0, .null, []), (53, .ireturn, 1, 0, 0, .null, []), (54, .iload 6, 2, 0, 0, .null, []),
  (56, .aload_n 0, 1, 0, 0, .null, []), (57, .getfield 10, 3, 5, 0, .null, [223, 0]), (60, .iload 5, 2, 0, 0, .null, []), (62, .iconst 1, 1, 0, 0, .null, []), (63, .iadd, 1, 0, 0, .null, []), (64, .iload_n 3, 1, 0, 0, .null, []),
  (65, .iload 4, 2, 0, 0, .null, []), (67, .invokevirtual 143, 3, 71, 4, .null, [602, 0, 468, 56, 469]), (70, .iadd, 1, 0, 0, .null, []), (71, .ireturn, 1, 0, 0, .null, [])]
/-- SmallerInTheShop hole (II)I -/
def mp_117 : List (Nat × mm_I) := [(0, .iload_n 1, 1, 0, 0, .null, []), (1, .iconst 3, 1, 0, 0, .null, []), (2, .invokestatic 79, 3, 89, 2, .null, [444, 0, 445, 55]), (5, .ifCond .ne 9, 3, 14, 0, .null, []), (8, .aload_n 0, 1, 0, 0, .null, []), (9, .iconst (-1), 1, 0, 0, .null, []),
  (10, .invokevirtual 58, 3, 84, 2, .null, [258, 0, 260, 55, 0]), (13, .ireturn, 1, 0, 0, .null, []), (14, .iload_n 2, 1, 0, 0, .null, []), (15, .iconst 2, 1, 0, 0, .null, []), (16, .invokestatic 79, 3, 89, 2, .null, [444, 0, 445, 55]), (19, .ifCond .ne 10, 3, 29, 0, .null, []),
  (22, .aload_n 0, 1, 0, 0, .null, []), (23, .bipush (-2), 2, 0, 0, .null, []), (25, .invokevirtual 58, 3, 84, 2, .null, [258, 0, 260, 55, 0]), (28, .ireturn, 1, 0, 0, .null, []), (29, .aload_n 0, 1, 0, 0, .null, []), (30, .getfield 10, 3, 5, 0, .null, [223, 0]),
  (33, .iload_n 1, 1, 0, 0, .null, []), (34, .invokevirtual 227, 3, 80, 2, .null, [765, 0, 743, 56, 744]), (37, .istore_n 3, 1, 0, 0, .null, []), (38, .iload_n 2, 1, 0, 0, .null, []), (39, .ifCond .ne 7, 3, 46, 0, .null, []), (42, .iload_n 3, 1, 0, 0, .null, []),
  (43, .goto 17, 3, 60, 0, .null, []), (46, .iload_n 3, 1, 0, 0, .null, []), (47, .bipush 40, 2, 0, 0, .null, []), (49, .if_icmp .lt 7, 3, 56, 0, .null, []), (52, .iconst 1, 1, 0, 0, .null, []), (53, .goto 4, 3, 57, 0, .null, []),
  (56, .iconst 0, 1, 0, 0, .null, []), (57, .invokestatic 121, 3, 95, 1, .null, [570, 0, 571, 55]), (60, .ireturn, 1, 0, 0, .null, [])]
/-- SmallerInTheShop weakest (I)I -/
def mp_118 : List (Nat × mm_I) := [(0, .iload_n 1, 1, 0, 0, .null, []), (1, .iconst 3, 1, 0, 0, .null, []), (2, .invokestatic 79, 3, 89, 2, .null, [444, 0, 445, 55]), (5, .ifCond .ne 10, 3, 15, 0, .null, []), (8, .aload_n 0, 1, 0, 0, .null, []), (9, .bipush (-2), 2, 0, 0, .null, []),
  (11, .invokevirtual 58, 3, 84, 2, .null, [258, 0, 260, 55, 0]), (14, .ireturn, 1, 0, 0, .null, []), (15, .iload_n 1, 1, 0, 0, .null, []), (16, .iconst 2, 1, 0, 0, .null, []), (17, .if_icmp .ne 11, 3, 28, 0, .null, []), (20, .aload_n 0, 1, 0, 0, .null, []),
  (21, .getfield 10, 3, 5, 0, .null, [223, 0]), (24, .invokevirtual 230, 3, 79, 1, .null, [770, 0, 739, 56, 740]), (27, .ireturn, 1, 0, 0, .null, []), (28, .iconst 0, 1, 0, 0, .null, []), (29, .istore_n 2, 1, 0, 0, .null, []), (30, .iconst 1, 1, 0, 0, .null, []),
  (31, .istore_n 3, 1, 0, 0, .null, []), (32, .iload_n 3, 1, 0, 0, .null, []), (33, .iconst 3, 1, 0, 0, .null, []), (34, .if_icmp .ge 30, 3, 64, 0, .null, []), (37, .aload_n 0, 1, 0, 0, .null, []), (38, .getfield 10, 3, 5, 0, .null, [223, 0]),
  (41, .iload_n 3, 1, 0, 0, .null, []), (42, .invokevirtual 227, 3, 80, 2, .null, [765, 0, 743, 56, 744]), (45, .aload_n 0, 1, 0, 0, .null, []), (46, .getfield 10, 3, 5, 0, .null, [223, 0]), (49, .iload_n 2, 1, 0, 0, .null, []), (50, .invokevirtual 227, 3, 80, 2, .null, [765, 0, 743, 56, 744]),
  (53, .if_icmp .le 5, 3, 58, 0, .null, []), (56, .iload_n 3, 1, 0, 0, .null, []), (57, .istore_n 2, 1, 0, 0, .null, []), (58, .iinc 3 1, 3, 0, 0, .null, []), (61, .goto (-29), 3, 32, 0, .null, []), (64, .iload_n 1, 1, 0, 0, .null, []),
  (65, .ifCond .ne 7, 3, 72, 0, .null, []), (68, .iload_n 2, 1, 0, 0, .null, []), (69, .goto 11, 3, 80, 0, .null, []), (72, .aload_n 0, 1, 0, 0, .null, []), (73, .getfield 10, 3, 5, 0, .null, [223, 0]), (76, .iload_n 2, 1, 0, 0, .null, []),
  (77, .invokevirtual 227, 3, 80, 2, .null, [765, 0, 743, 56, 744]), (80, .ireturn, 1, 0, 0, .null, [])]
/-- SmallerInTheShop wind (II)J -/
def mp_119 : List (Nat × mm_I) := [(0, .iload_n 1, 1, 0, 0, .null, []), (1, .iconst 2, 1, 0, 0, .null, []), (2, .if_icmp .ge 10, 3, 12, 0, .null, []), (5, .aload_n 0, 1, 0, 0, .null, []), (6, .bipush (-4), 2, 0, 0, .null, []), (8, .invokevirtual 233, 3, 120, 2, .null, [775, 0, 777, 55, 25]),
  (11, .lreturn, 1, 0, 0, .null, []), (12, .iload_n 1, 1, 0, 0, .null, []), (13, .bipush 20, 2, 0, 0, .null, []), (15, .if_icmp .le 10, 3, 25, 0, .null, []), (18, .aload_n 0, 1, 0, 0, .null, []), (19, .bipush (-6), 2, 0, 0, .null, []),
  (21, .invokevirtual 233, 3, 120, 2, .null, [775, 0, 777, 55, 25]), (24, .lreturn, 1, 0, 0, .null, []), (25, .aload_n 0, 1, 0, 0, .null, []), (26, .getfield 50, 3, 5, 8, .null, [231, 0]), (29, .iconst 4, 1, 0, 0, .null, []), (30, .if_icmp .gt 10, 3, 40, 0, .null, []),
  (33, .aload_n 0, 1, 0, 0, .null, []), (34, .invokevirtual 237, 3, 121, 1, .null, [780, 0, 782, 55, 26]), (37, .ifCond .lt 10, 3, 47, 0, .null, []), (40, .aload_n 0, 1, 0, 0, .null, []), (41, .bipush (-3), 2, 0, 0, .null, []), (43, .invokevirtual 233, 3, 120, 2, .null, [775, 0, 777, 55, 25]),
  (46, .lreturn, 1, 0, 0, .null, []), (47, .iload_n 2, 1, 0, 0, .null, []), (48, .iconst 2, 1, 0, 0, .null, []), (49, .invokestatic 79, 3, 89, 2, .null, [444, 0, 445, 55]), (52, .ifCond .ne 10, 3, 62, 0, .null, []), (55, .aload_n 0, 1, 0, 0, .null, []),
  (56, .bipush (-2), 2, 0, 0, .null, []), (58, .invokevirtual 233, 3, 120, 2, .null, [775, 0, 777, 55, 25]), (61, .lreturn, 1, 0, 0, .null, []), (62, .lconst 0, 1, 0, 0, .null, []), (63, .lstore_n 3, 1, 0, 0, .null, []), (64, .lconst 0, 1, 0, 0, .null, []),
  (65, .lstore 5, 2, 0, 0, .null, []), (67, .iconst 0, 1, 0, 0, .null, []), (68, .istore 7, 2, 0, 0, .null, []), (70, .iload 7, 2, 0, 0, .null, []), (72, .iconst 1, 1, 0, 0, .null, []), (73, .aload_n 0, 1, 0, 0, .null, []),
  (74, .getfield 50, 3, 5, 8, .null, [231, 0]), (77, .ishl, 1, 0, 0, .null, []), (78, .if_icmp .ge 49, 3, 127, 0, .null, []), (81, .iload_n 1, 1, 0, 0, .null, []), (82, .iconst 1, 1, 0, 0, .null, []), (83, .isub, 1, 0, 0, .null, []),
  (84, .i2l, 1, 0, 0, .null, []), (85, .aload_n 0, 1, 0, 0, .null, []), (86, .getfield 50, 3, 5, 8, .null, [231, 0]), (89, .iload 7, 2, 0, 0, .null, []), (91, .invokestatic 240, 3, 0, 1, .null, [784, 0, 678, 69]), (94, .isub, 1, 0, 0, .null, []),
  (95, .invokestatic 245, 3, 122, 2, .null, [785, 0, 786, 55]), (98, .lstore 8, 2, 0, 0, .null, []), (100, .lload 5, 2, 0, 0, .null, []), (102, .lload 8, 2, 0, 0, .null, []), (104, .ladd, 1, 0, 0, .null, []), (105, .lstore 5, 2, 0, 0, .null, []),
  (107, .aload_n 0, 1, 0, 0, .null, []), (108, .iload 7, 2, 0, 0, .null, []), (110, .invokevirtual 249, 3, 123, 2, .null, [788, 0, 790, 55, 27]), (113, .ifCond .eq 8, 3, 121, 0, .null, []), (116, .lload_n 3, 1, 0, 0, .null, []), (117, .lload 8, 2, 0, 0, .null, []),
  (119, .ladd, 1, 0, 0, .null, []), (120, .lstore_n 3, 1, 0, 0, .null, []), (121, .iinc 7 1, 3, 0, 0, .null, []), (124, .goto (-54), 3, 70, 0, .null, []), (127, .lload_n 3, 1, 0, 0, .null, []), (128, .lload 5, 2, 0, 0, .null, []),
  (130, .iload_n 2, 1, 0, 0, .null, []), (131, .invokestatic 252, 3, 124, 3, .null, [792, 0, 793, 55]), (134, .lreturn, 1, 0, 0, .null, [])]
/-- SmallerInTheShop refuseLong (I)J -/
def mp_120 : List (Nat × mm_I) := [(0, .ldc2_w 288, 3, 0, 0, .long (4000000000000000000), [779]), (3, .aload_n 0, 1, 0, 0, .null, []), (4, .iload_n 1, 1, 0, 0, .null, []), (5, .invokevirtual 58, 3, 84, 2, .null, [258, 0, 260, 55, 0]), (8, .i2l, 1, 0, 0, .null, []), (9, .lsub, 1, 0, 0, .null, []),
  (10, .lreturn, 1, 0, 0, .null, [])]
/-- SmallerInTheShop firstImpossible ()I -/
def mp_121 : List (Nat × mm_I) := [(0, .aload_n 0, 1, 0, 0, .null, []), (1, .getfield 10, 3, 5, 0, .null, [223, 0]), (4, .getfield 137, 3, 4, 4, .null, [142, 1]), (7, .istore_n 1, 1, 0, 0, .null, []), (8, .iconst 0, 1, 0, 0, .null, []), (9, .istore_n 2, 1, 0, 0, .null, []),
  (10, .iload_n 2, 1, 0, 0, .null, []), (11, .aload_n 0, 1, 0, 0, .null, []), (12, .getfield 50, 3, 5, 8, .null, [231, 0]), (15, .if_icmp .ge 65, 3, 80, 0, .null, []), (18, .aload_n 0, 1, 0, 0, .null, []), (19, .getfield 43, 3, 5, 6, .null, [229, 0]),
  (22, .iload_n 2, 1, 0, 0, .null, []), (23, .iaload, 1, 0, 0, .null, []), (24, .bipush 10, 2, 0, 0, .null, []), (26, .idiv, 1, 0, 0, .null, []), (27, .istore_n 3, 1, 0, 0, .null, []), (28, .aload_n 0, 1, 0, 0, .null, []),
  (29, .getfield 43, 3, 5, 6, .null, [229, 0]), (32, .iload_n 2, 1, 0, 0, .null, []), (33, .iaload, 1, 0, 0, .null, []), (34, .bipush 10, 2, 0, 0, .null, []), (36, .irem, 1, 0, 0, .null, []), (37, .istore 4, 2, 0, 0, .null, []),
  (39, .aload_n 0, 1, 0, 0, .null, []), (40, .getfield 10, 3, 5, 0, .null, [223, 0]), (43, .iload_n 1, 1, 0, 0, .null, []), (44, .iload_n 3, 1, 0, 0, .null, []), (45, .invokevirtual 290, 3, 69, 3, .null, [455, 0, 456, 56, 457]), (48, .ifCond .eq 9, 3, 57, 0, .null, []),
  (51, .iload 4, 2, 0, 0, .null, []), (53, .iconst 4, 1, 0, 0, .null, []), (54, .if_icmp .lt 5, 3, 59, 0, .null, []), (57, .iload_n 2, 1, 0, 0, .null, []), (58, .ireturn, 1, 0, 0, .null, []), (59, .aload_n 0, 1, 0, 0, .null, []),
  (60, .getfield 10, 3, 5, 0, .null, [223, 0]), (63, .iload_n 1, 1, 0, 0, .null, []), (64, .iload_n 3, 1, 0, 0, .null, []), (65, .iload 4, 2, 0, 0, .null, []), (67, .invokevirtual 143, 3, 71, 4, .null, [602, 0, 468, 56, 469]), (70, .pop, 1, 0, 0, .null, []),
  (71, .iinc 1 1, 3, 0, 0, .null, []), (74, .iinc 2 1, 3, 0, 0, .null, []), (77, .goto (-67), 3, 10, 0, .null, []), (80, .iconst (-1), 1, 0, 0, .null, []), (81, .ireturn, 1, 0, 0, .null, [])]
/-- SmallerInTheShop power (JI)J -/
def mp_122 : List (Nat × mm_I) := [(0, .lconst 1, 1, 0, 0, .null, []), (1, .lstore_n 3, 1, 0, 0, .null, []), (2, .iconst 0, 1, 0, 0, .null, []), (3, .istore 5, 2, 0, 0, .null, []), (5, .iload 5, 2, 0, 0, .null, []), (7, .iload_n 2, 1, 0, 0, .null, []),
  (8, .if_icmp .ge 13, 3, 21, 0, .null, []), (11, .lload_n 3, 1, 0, 0, .null, []), (12, .lload_n 0, 1, 0, 0, .null, []), (13, .lmul, 1, 0, 0, .null, []), (14, .lstore_n 3, 1, 0, 0, .null, []), (15, .iinc 5 1, 3, 0, 0, .null, []),
  (18, .goto (-13), 3, 5, 0, .null, []), (21, .lload_n 3, 1, 0, 0, .null, []), (22, .lreturn, 1, 0, 0, .null, [])]
/-- SmallerInTheShop isCoverOutBy (I)Z -/
def mp_123 : List (Nat × mm_I) := [(0, .aload_n 0, 1, 0, 0, .null, []), (1, .getfield 10, 3, 5, 0, .null, [223, 0]), (4, .getfield 137, 3, 4, 4, .null, [142, 1]), (7, .istore_n 2, 1, 0, 0, .null, []), (8, .iconst 0, 1, 0, 0, .null, []), (9, .istore_n 3, 1, 0, 0, .null, []),
  (10, .iload_n 3, 1, 0, 0, .null, []), (11, .aload_n 0, 1, 0, 0, .null, []), (12, .getfield 50, 3, 5, 8, .null, [231, 0]), (15, .if_icmp .ge 66, 3, 81, 0, .null, []), (18, .aload_n 0, 1, 0, 0, .null, []), (19, .getfield 43, 3, 5, 6, .null, [229, 0]),
  (22, .iload_n 3, 1, 0, 0, .null, []), (23, .iaload, 1, 0, 0, .null, []), (24, .bipush 10, 2, 0, 0, .null, []), (26, .idiv, 1, 0, 0, .null, []), (27, .istore 4, 2, 0, 0, .null, []), (29, .aload_n 0, 1, 0, 0, .null, []),
  (30, .getfield 43, 3, 5, 6, .null, [229, 0]), (33, .iload_n 3, 1, 0, 0, .null, []), (34, .iaload, 1, 0, 0, .null, []), (35, .bipush 10, 2, 0, 0, .null, []), (37, .irem, 1, 0, 0, .null, []), (38, .iload_n 1, 1, 0, 0, .null, []),
  (39, .iload_n 3, 1, 0, 0, .null, []), (40, .ishr, 1, 0, 0, .null, []), (41, .iconst 1, 1, 0, 0, .null, []), (42, .iand, 1, 0, 0, .null, []), (43, .ixor, 1, 0, 0, .null, []), (44, .istore 5, 2, 0, 0, .null, []),
  (46, .aload_n 0, 1, 0, 0, .null, []), (47, .getfield 10, 3, 5, 0, .null, [223, 0]), (50, .iload_n 2, 1, 0, 0, .null, []), (51, .iload 4, 2, 0, 0, .null, []), (53, .invokevirtual 290, 3, 69, 3, .null, [455, 0, 456, 56, 457]), (56, .ifCond .eq 19, 3, 75, 0, .null, []),
  (59, .aload_n 0, 1, 0, 0, .null, []), (60, .getfield 10, 3, 5, 0, .null, [223, 0]), (63, .iload_n 2, 1, 0, 0, .null, []), (64, .iload 4, 2, 0, 0, .null, []), (66, .iload 5, 2, 0, 0, .null, []), (68, .invokevirtual 143, 3, 71, 4, .null, [602, 0, 468, 56, 469]),
  (71, .pop, 1, 0, 0, .null, []), (72, .iinc 2 1, 3, 0, 0, .null, []), (75, .iinc 3 1, 3, 0, 0, .null, []), (78, .goto (-68), 3, 10, 0, .null, []), (81, .aload_n 0, 1, 0, 0, .null, []), (82, .getfield 10, 3, 5, 0, .null, [223, 0]),
  (85, .getfield 147, 3, 4, 0, .null, [133, 1]), (88, .iload_n 2, 1, 0, 0, .null, []), (89, .aaload, 1, 0, 0, .null, []), (90, .aload_n 0, 1, 0, 0, .null, []), (91, .getfield 10, 3, 5, 0, .null, [223, 0]), (94, .getfield 140, 3, 4, 5, .null, [144, 1]),
  (97, .invokevirtual 176, 3, 36, 2, .null, [631, 0, 632, 57, 633]), (100, .ireturn, 1, 0, 0, .null, [])]
/-- SmallerInTheShop partOfFraction (JJI)J -/
def mp_124 : List (Nat × mm_I) := [(0, .lload_n 2, 1, 0, 0, .null, []), (1, .lstore 5, 2, 0, 0, .null, []), (3, .lload_n 0, 1, 0, 0, .null, []), (4, .lstore 7, 2, 0, 0, .null, []), (6, .iconst 0, 1, 0, 0, .null, []), (7, .istore 9, 2, 0, 0, .null, []),
  (9, .iload 9, 2, 0, 0, .null, []), (11, .bipush 100, 2, 0, 0, .null, []), (13, .if_icmp .ge 31, 3, 44, 0, .null, []), (16, .lload 7, 2, 0, 0, .null, []), (18, .lconst 0, 1, 0, 0, .null, []), (19, .lcmp, 1, 0, 0, .null, []),
  (20, .ifCond .eq 24, 3, 44, 0, .null, []), (23, .lload 5, 2, 0, 0, .null, []), (25, .lload 7, 2, 0, 0, .null, []), (27, .lrem, 1, 0, 0, .null, []), (28, .lstore 10, 2, 0, 0, .null, []), (30, .lload 7, 2, 0, 0, .null, []),
  (32, .lstore 5, 2, 0, 0, .null, []), (34, .lload 10, 2, 0, 0, .null, []), (36, .lstore 7, 2, 0, 0, .null, []), (38, .iinc 9 1, 3, 0, 0, .null, []), (41, .goto (-32), 3, 9, 0, .null, []), (44, .lload 5, 2, 0, 0, .null, []),
  (46, .lconst 0, 1, 0, 0, .null, []), (47, .lcmp, 1, 0, 0, .null, []), (48, .ifCond .ne 7, 3, 55, 0, .null, []), (51, .iload 4, 2, 0, 0, .null, []), (53, .i2l, 1, 0, 0, .null, []), (54, .lreturn, 1, 0, 0, .null, []),
  (55, .iload 4, 2, 0, 0, .null, []), (57, .ifCond .ne 10, 3, 67, 0, .null, []), (60, .lload_n 0, 1, 0, 0, .null, []), (61, .lload 5, 2, 0, 0, .null, []), (63, .ldiv, 1, 0, 0, .null, []), (64, .goto 7, 3, 71, 0, .null, []),
  (67, .lload_n 2, 1, 0, 0, .null, []), (68, .lload 5, 2, 0, 0, .null, []), (70, .ldiv, 1, 0, 0, .null, []), (71, .lreturn, 1, 0, 0, .null, [])]
/-- SmallerInTheShop mean (I)J -/
def mp_125 : List (Nat × mm_I) := [(0, .iload_n 1, 1, 0, 0, .null, []), (1, .iconst 2, 1, 0, 0, .null, []), (2, .invokestatic 79, 3, 89, 2, .null, [444, 0, 445, 55]), (5, .ifCond .ne 10, 3, 15, 0, .null, []), (8, .aload_n 0, 1, 0, 0, .null, []), (9, .bipush (-2), 2, 0, 0, .null, []),
  (11, .invokevirtual 233, 3, 120, 2, .null, [775, 0, 777, 55, 25]), (14, .lreturn, 1, 0, 0, .null, []), (15, .aload_n 0, 1, 0, 0, .null, []), (16, .getfield 10, 3, 5, 0, .null, [223, 0]), (19, .invokevirtual 256, 3, 81, 1, .null, [799, 0, 800, 56, 801]), (22, .i2l, 1, 0, 0, .null, []),
  (23, .ldc2_w 259, 3, 0, 0, .long (10), [803]), (26, .iload_n 1, 1, 0, 0, .null, []), (27, .invokestatic 252, 3, 124, 3, .null, [792, 0, 793, 55]), (30, .lreturn, 1, 0, 0, .null, [])]
/-- SmallerInTheShop whatIs (II)I -/
def mp_126 : List (Nat × mm_I) := [(0, .iload_n 1, 1, 0, 0, .null, []), (1, .bipush 10, 2, 0, 0, .null, []), (3, .invokestatic 79, 3, 89, 2, .null, [444, 0, 445, 55]), (6, .ifCond .ne 9, 3, 15, 0, .null, []), (9, .aload_n 0, 1, 0, 0, .null, []), (10, .iconst (-1), 1, 0, 0, .null, []),
  (11, .invokevirtual 58, 3, 84, 2, .null, [258, 0, 260, 55, 0]), (14, .ireturn, 1, 0, 0, .null, []), (15, .iload_n 2, 1, 0, 0, .null, []), (16, .iconst 2, 1, 0, 0, .null, []), (17, .invokestatic 79, 3, 89, 2, .null, [444, 0, 445, 55]), (20, .ifCond .ne 10, 3, 30, 0, .null, []),
  (23, .aload_n 0, 1, 0, 0, .null, []), (24, .bipush (-2), 2, 0, 0, .null, []), (26, .invokevirtual 58, 3, 84, 2, .null, [258, 0, 260, 55, 0]), (29, .ireturn, 1, 0, 0, .null, []), (30, .aload_n 0, 1, 0, 0, .null, []), (31, .getfield 50, 3, 5, 8, .null, [231, 0]),
  (34, .iconst 2, 1, 0, 0, .null, []), (35, .irem, 1, 0, 0, .null, []), (36, .ifCond .eq 10, 3, 46, 0, .null, []), (39, .aload_n 0, 1, 0, 0, .null, []), (40, .bipush (-3), 2, 0, 0, .null, []), (42, .invokevirtual 58, 3, 84, 2, .null, [258, 0, 260, 55, 0]),
  (45, .ireturn, 1, 0, 0, .null, []), (46, .iload_n 2, 1, 0, 0, .null, []), (47, .ifCond .ne 19, 3, 66, 0, .null, []), (50, .aload_n 0, 1, 0, 0, .null, []), (51, .aload_n 0, 1, 0, 0, .null, []), (52, .getfield 10, 3, 5, 0, .null, [223, 0]),
  (55, .getfield 86, 3, 4, 2, .null, [137, 1]), (58, .iload_n 1, 1, 0, 0, .null, []), (59, .iaload, 1, 0, 0, .null, []), (60, .invokevirtual 261, 3, 127, 2, .null, [808, 0, 810, 55, 28]), (63, .goto 16, 3, 79, 0, .null, []), (66, .aload_n 0, 1, 0, 0, .null, []),
  (67, .aload_n 0, 1, 0, 0, .null, []), (68, .getfield 10, 3, 5, 0, .null, [223, 0]), (71, .getfield 83, 3, 4, 1, .null, [135, 1]), (74, .iload_n 1, 1, 0, 0, .null, []), (75, .iaload, 1, 0, 0, .null, []), (76, .invokevirtual 264, 3, 129, 2, .null, [817, 0, 819, 55, 30]),
  (79, .ireturn, 1, 0, 0, .null, [])]
/-- SmallerInTheShop kindsThatFit (I)I -/
def mp_127 : List (Nat × mm_I) := [(0, .iconst 0, 1, 0, 0, .null, []), (1, .istore_n 2, 1, 0, 0, .null, []), (2, .iconst 0, 1, 0, 0, .null, []), (3, .istore_n 3, 1, 0, 0, .null, []), (4, .iload_n 3, 1, 0, 0, .null, []), (5, .bipush 6, 2, 0, 0, .null, []),
  (7, .if_icmp .ge 24, 3, 31, 0, .null, []), (10, .aload_n 0, 1, 0, 0, .null, []), (11, .iload_n 3, 1, 0, 0, .null, []), (12, .iload_n 1, 1, 0, 0, .null, []), (13, .invokevirtual 321, 3, 128, 3, .null, [812, 0, 814, 55, 29]), (16, .ifCond .eq 9, 3, 25, 0, .null, []),
  (19, .iload_n 2, 1, 0, 0, .null, []), (20, .iconst 1, 1, 0, 0, .null, []), (21, .iload_n 3, 1, 0, 0, .null, []), (22, .ishl, 1, 0, 0, .null, []), (23, .ior, 1, 0, 0, .null, []), (24, .istore_n 2, 1, 0, 0, .null, []),
  (25, .iinc 3 1, 3, 0, 0, .null, []), (28, .goto (-24), 3, 4, 0, .null, []), (31, .iload_n 2, 1, 0, 0, .null, []), (32, .ireturn, 1, 0, 0, .null, [])]
/-- SmallerInTheShop fitsAllPairs (II)Z -/
def mp_128 : List (Nat × mm_I) := [(0, .iconst 0, 1, 0, 0, .null, []), (1, .istore_n 3, 1, 0, 0, .null, []), (2, .iload_n 3, 1, 0, 0, .null, []), (3, .iconst 1, 1, 0, 0, .null, []), (4, .iadd, 1, 0, 0, .null, []), (5, .aload_n 0, 1, 0, 0, .null, []),
  (6, .getfield 50, 3, 5, 8, .null, [231, 0]), (9, .if_icmp .ge 34, 3, 43, 0, .null, []), (12, .iload_n 1, 1, 0, 0, .null, []), (13, .iload_n 2, 1, 0, 0, .null, []), (14, .aload_n 0, 1, 0, 0, .null, []), (15, .getfield 43, 3, 5, 6, .null, [229, 0]),
  (18, .iload_n 3, 1, 0, 0, .null, []), (19, .iaload, 1, 0, 0, .null, []), (20, .iconst 1, 1, 0, 0, .null, []), (21, .invokestatic 324, 3, 16, 4, .null, [816, 0, 511, 68]), (24, .aload_n 0, 1, 0, 0, .null, []), (25, .getfield 43, 3, 5, 6, .null, [229, 0]),
  (28, .iload_n 3, 1, 0, 0, .null, []), (29, .iconst 1, 1, 0, 0, .null, []), (30, .iadd, 1, 0, 0, .null, []), (31, .iaload, 1, 0, 0, .null, []), (32, .if_icmp .eq 5, 3, 37, 0, .null, []), (35, .iconst 0, 1, 0, 0, .null, []),
  (36, .ireturn, 1, 0, 0, .null, []), (37, .iinc 3 2, 3, 0, 0, .null, []), (40, .goto (-38), 3, 2, 0, .null, []), (43, .iconst 1, 1, 0, 0, .null, []), (44, .ireturn, 1, 0, 0, .null, [])]
/-- SmallerInTheShop figuresThatFit (I)I -/
def mp_129 : List (Nat × mm_I) := [(0, .iconst 0, 1, 0, 0, .null, []), (1, .istore_n 2, 1, 0, 0, .null, []), (2, .iconst 0, 1, 0, 0, .null, []), (3, .istore_n 3, 1, 0, 0, .null, []), (4, .iload_n 3, 1, 0, 0, .null, []), (5, .bipush 9, 2, 0, 0, .null, []),
  (7, .if_icmp .gt 24, 3, 31, 0, .null, []), (10, .aload_n 0, 1, 0, 0, .null, []), (11, .iload_n 1, 1, 0, 0, .null, []), (12, .iload_n 3, 1, 0, 0, .null, []), (13, .invokevirtual 321, 3, 128, 3, .null, [812, 0, 814, 55, 29]), (16, .ifCond .eq 9, 3, 25, 0, .null, []),
  (19, .iload_n 2, 1, 0, 0, .null, []), (20, .iconst 1, 1, 0, 0, .null, []), (21, .iload_n 3, 1, 0, 0, .null, []), (22, .ishl, 1, 0, 0, .null, []), (23, .ior, 1, 0, 0, .null, []), (24, .istore_n 2, 1, 0, 0, .null, []),
  (25, .iinc 3 1, 3, 0, 0, .null, []), (28, .goto (-24), 3, 4, 0, .null, []), (31, .iload_n 2, 1, 0, 0, .null, []), (32, .ireturn, 1, 0, 0, .null, [])]
/-- SmallerInTheShop row (I)I -/
def mp_130 : List (Nat × mm_I) := [(0, .iload_n 1, 1, 0, 0, .null, []), (1, .ifCond .ge 10, 3, 11, 0, .null, []), (4, .aload_n 0, 1, 0, 0, .null, []), (5, .bipush (-4), 2, 0, 0, .null, []), (7, .invokevirtual 58, 3, 84, 2, .null, [258, 0, 260, 55, 0]), (10, .ireturn, 1, 0, 0, .null, []),
  (11, .iload_n 1, 1, 0, 0, .null, []), (12, .bipush 99, 2, 0, 0, .null, []), (14, .if_icmp .gt 12, 3, 26, 0, .null, []), (17, .aload_n 0, 1, 0, 0, .null, []), (18, .getfield 50, 3, 5, 8, .null, [231, 0]), (21, .bipush 16, 2, 0, 0, .null, []),
  (23, .if_icmp .lt 10, 3, 33, 0, .null, []), (26, .aload_n 0, 1, 0, 0, .null, []), (27, .bipush (-6), 2, 0, 0, .null, []), (29, .invokevirtual 58, 3, 84, 2, .null, [258, 0, 260, 55, 0]), (32, .ireturn, 1, 0, 0, .null, []), (33, .aload_n 0, 1, 0, 0, .null, []),
  (34, .getfield 43, 3, 5, 6, .null, [229, 0]), (37, .aload_n 0, 1, 0, 0, .null, []), (38, .getfield 50, 3, 5, 8, .null, [231, 0]), (41, .iload_n 1, 1, 0, 0, .null, []), (42, .iastore, 1, 0, 0, .null, []), (43, .aload_n 0, 1, 0, 0, .null, []),
  (44, .dup, 1, 0, 0, .null, []), (45, .getfield 50, 3, 5, 8, .null, [231, 0]), (48, .iconst 1, 1, 0, 0, .null, []), (49, .iadd, 1, 0, 0, .null, []), (50, .putfield 50, 3, 5, 8, .null, [231, 0]), (53, .aload_n 0, 1, 0, 0, .null, []),
  (54, .getfield 50, 3, 5, 8, .null, [231, 0]), (57, .ireturn, 1, 0, 0, .null, [])]
/-- SmallerInTheShop judge ()I -/
def mp_131 : List (Nat × mm_I) := [(0, .aload_n 0, 1, 0, 0, .null, []), (1, .invokevirtual 237, 3, 121, 1, .null, [780, 0, 782, 55, 26]), (4, .istore_n 1, 1, 0, 0, .null, []), (5, .aload_n 0, 1, 0, 0, .null, []), (6, .iconst 0, 1, 0, 0, .null, []), (7, .putfield 50, 3, 5, 8, .null, [231, 0]),
  (10, .iload_n 1, 1, 0, 0, .null, []), (11, .ifCond .ge 8, 3, 19, 0, .null, []), (14, .bipush (-9), 2, 0, 0, .null, []), (16, .goto 4, 3, 20, 0, .null, []), (19, .iload_n 1, 1, 0, 0, .null, []), (20, .ireturn, 1, 0, 0, .null, [])]
/-- SmallerInTheShop clear ()I -/
def mp_132 : List (Nat × mm_I) := [(0, .aload_n 0, 1, 0, 0, .null, []), (1, .getfield 50, 3, 5, 8, .null, [231, 0]), (4, .istore_n 1, 1, 0, 0, .null, []), (5, .aload_n 0, 1, 0, 0, .null, []), (6, .iconst 0, 1, 0, 0, .null, []), (7, .putfield 50, 3, 5, 8, .null, [231, 0]),
  (10, .iload_n 1, 1, 0, 0, .null, []), (11, .ireturn, 1, 0, 0, .null, [])]
/-- SmallerInTheShop lots (III)I -/
def mp_133 : List (Nat × mm_I) := [(0, .iload_n 1, 1, 0, 0, .null, []), (1, .iconst 1, 1, 0, 0, .null, []), (2, .if_icmp .ge 10, 3, 12, 0, .null, []), (5, .aload_n 0, 1, 0, 0, .null, []), (6, .bipush (-4), 2, 0, 0, .null, []), (8, .invokevirtual 58, 3, 84, 2, .null, [258, 0, 260, 55, 0]),
  (11, .ireturn, 1, 0, 0, .null, []), (12, .iload_n 1, 1, 0, 0, .null, []), (13, .bipush 20, 2, 0, 0, .null, []), (15, .if_icmp .le 10, 3, 25, 0, .null, []), (18, .aload_n 0, 1, 0, 0, .null, []), (19, .bipush (-6), 2, 0, 0, .null, []),
  (21, .invokevirtual 58, 3, 84, 2, .null, [258, 0, 260, 55, 0]), (24, .ireturn, 1, 0, 0, .null, []), (25, .iload_n 3, 1, 0, 0, .null, []), (26, .iconst 2, 1, 0, 0, .null, []), (27, .invokestatic 79, 3, 89, 2, .null, [444, 0, 445, 55]), (30, .ifCond .ne 10, 3, 40, 0, .null, []),
  (33, .aload_n 0, 1, 0, 0, .null, []), (34, .bipush (-2), 2, 0, 0, .null, []), (36, .invokevirtual 58, 3, 84, 2, .null, [258, 0, 260, 55, 0]), (39, .ireturn, 1, 0, 0, .null, []), (40, .aload_n 0, 1, 0, 0, .null, []), (41, .getfield 39, 3, 5, 5, .null, [228, 0]),
  (44, .iload_n 2, 1, 0, 0, .null, []), (45, .putfield 267, 3, 0, 0, .null, [215, 1]), (48, .iconst 0, 1, 0, 0, .null, []), (49, .istore 4, 2, 0, 0, .null, []), (51, .iconst 0, 1, 0, 0, .null, []), (52, .istore 5, 2, 0, 0, .null, []),
  (54, .iconst 0, 1, 0, 0, .null, []), (55, .istore 6, 2, 0, 0, .null, []), (57, .iload 6, 2, 0, 0, .null, []), (59, .iload_n 1, 1, 0, 0, .null, []), (60, .if_icmp .ge 51, 3, 111, 0, .null, []), (63, .iload 4, 2, 0, 0, .null, []),
  (65, .aload_n 0, 1, 0, 0, .null, []), (66, .invokevirtual 270, 3, 134, 1, .null, [837, 0, 839, 55, 31]), (69, .iadd, 1, 0, 0, .null, []), (70, .istore 4, 2, 0, 0, .null, []), (72, .iload 5, 2, 0, 0, .null, []), (74, .aload_n 0, 1, 0, 0, .null, []),
  (75, .getfield 10, 3, 5, 0, .null, [223, 0]), (78, .getfield 147, 3, 4, 0, .null, [133, 1]), (81, .aload_n 0, 1, 0, 0, .null, []), (82, .getfield 39, 3, 5, 5, .null, [228, 0]), (85, .getfield 273, 3, 0, 1, .null, [217, 1]), (88, .aaload, 1, 0, 0, .null, []),
  (89, .aload_n 0, 1, 0, 0, .null, []), (90, .getfield 10, 3, 5, 0, .null, [223, 0]), (93, .getfield 140, 3, 4, 5, .null, [144, 1]), (96, .invokevirtual 176, 3, 36, 2, .null, [631, 0, 632, 57, 633]), (99, .invokestatic 121, 3, 95, 1, .null, [570, 0, 571, 55]), (102, .iadd, 1, 0, 0, .null, []),
  (103, .istore 5, 2, 0, 0, .null, []), (105, .iinc 6 1, 3, 0, 0, .null, []), (108, .goto (-51), 3, 57, 0, .null, []), (111, .iload_n 3, 1, 0, 0, .null, []), (112, .ifCond .ne 8, 3, 120, 0, .null, []), (115, .iload 4, 2, 0, 0, .null, []),
  (117, .goto 5, 3, 122, 0, .null, []), (120, .iload 5, 2, 0, 0, .null, []), (122, .ireturn, 1, 0, 0, .null, [])]
/-- SmallerInTheShop shutByLot ()I -/
def mp_134 : List (Nat × mm_I) := [(0, .iconst 0, 1, 0, 0, .null, []), (1, .istore_n 1, 1, 0, 0, .null, []), (2, .aload_n 0, 1, 0, 0, .null, []), (3, .getfield 39, 3, 5, 5, .null, [228, 0]), (6, .aload_n 0, 1, 0, 0, .null, []), (7, .getfield 10, 3, 5, 0, .null, [223, 0]),
  (10, .getfield 137, 3, 4, 4, .null, [142, 1]), (13, .putfield 273, 3, 0, 1, .null, [217, 1]), (16, .iconst 0, 1, 0, 0, .null, []), (17, .istore_n 2, 1, 0, 0, .null, []), (18, .iload_n 2, 1, 0, 0, .null, []), (19, .iconst 4, 1, 0, 0, .null, []),
  (20, .if_icmp .ge 126, 3, 146, 0, .null, []), (23, .aload_n 0, 1, 0, 0, .null, []), (24, .getfield 10, 3, 5, 0, .null, [223, 0]), (27, .getfield 147, 3, 4, 0, .null, [133, 1]), (30, .aload_n 0, 1, 0, 0, .null, []), (31, .getfield 39, 3, 5, 5, .null, [228, 0]),
  (34, .getfield 273, 3, 0, 1, .null, [217, 1]), (37, .aaload, 1, 0, 0, .null, []), (38, .invokevirtual 329, 3, 39, 1, .null, [841, 0, 665, 57, 666]), (41, .ifCond .ne 105, 3, 146, 0, .null, []), (44, .aload_n 0, 1, 0, 0, .null, []), (45, .getfield 10, 3, 5, 0, .null, [223, 0]),
  (48, .getfield 147, 3, 4, 0, .null, [133, 1]), (51, .aload_n 0, 1, 0, 0, .null, []), (52, .getfield 39, 3, 5, 5, .null, [228, 0]), (55, .getfield 273, 3, 0, 1, .null, [217, 1]), (58, .aaload, 1, 0, 0, .null, []), (59, .astore_n 3, 1, 0, 0, .null, []),
  (60, .aload_n 3, 1, 0, 0, .null, []), (61, .aload_n 0, 1, 0, 0, .null, []), (62, .getfield 39, 3, 5, 5, .null, [228, 0]), (65, .aload_n 3, 1, 0, 0, .null, []), (66, .invokevirtual 332, 3, 40, 1, .null, [842, 0, 843, 57, 844]), (69, .invokevirtual 335, 3, 15, 2, .null, [846, 0, 847, 60, 848]),
  (72, .invokevirtual 338, 3, 41, 2, .null, [853, 0, 854, 57, 855]), (75, .istore 4, 2, 0, 0, .null, []), (77, .aload_n 0, 1, 0, 0, .null, []), (78, .getfield 39, 3, 5, 5, .null, [228, 0]), (81, .iconst 4, 1, 0, 0, .null, []), (82, .invokevirtual 335, 3, 15, 2, .null, [846, 0, 847, 60, 848]),
  (85, .istore 5, 2, 0, 0, .null, []), (87, .aload_n 0, 1, 0, 0, .null, []), (88, .getfield 10, 3, 5, 0, .null, [223, 0]), (91, .aload_n 0, 1, 0, 0, .null, []), (92, .getfield 39, 3, 5, 5, .null, [228, 0]), (95, .getfield 273, 3, 0, 1, .null, [217, 1]),
  (98, .iload 4, 2, 0, 0, .null, []), (100, .invokevirtual 290, 3, 69, 3, .null, [455, 0, 456, 56, 457]), (103, .ifCond .eq 37, 3, 140, 0, .null, []), (106, .iload_n 1, 1, 0, 0, .null, []), (107, .aload_n 0, 1, 0, 0, .null, []), (108, .getfield 10, 3, 5, 0, .null, [223, 0]),
  (111, .aload_n 0, 1, 0, 0, .null, []), (112, .getfield 39, 3, 5, 5, .null, [228, 0]), (115, .getfield 273, 3, 0, 1, .null, [217, 1]), (118, .iload 4, 2, 0, 0, .null, []), (120, .iload 5, 2, 0, 0, .null, []), (122, .invokevirtual 143, 3, 71, 4, .null, [602, 0, 468, 56, 469]),
  (125, .iadd, 1, 0, 0, .null, []), (126, .istore_n 1, 1, 0, 0, .null, []), (127, .aload_n 0, 1, 0, 0, .null, []), (128, .getfield 39, 3, 5, 5, .null, [228, 0]), (131, .dup, 1, 0, 0, .null, []), (132, .getfield 273, 3, 0, 1, .null, [217, 1]),
  (135, .iconst 1, 1, 0, 0, .null, []), (136, .iadd, 1, 0, 0, .null, []), (137, .putfield 273, 3, 0, 1, .null, [217, 1]), (140, .iinc 2 1, 3, 0, 0, .null, []), (143, .goto (-125), 3, 18, 0, .null, []), (146, .iload_n 1, 1, 0, 0, .null, []),
  (147, .ireturn, 1, 0, 0, .null, [])]
/-- SmallerInTheShop image ()I -/
def mp_135 : List (Nat × mm_I) := [(0, .aload_n 0, 1, 0, 0, .null, []), (1, .getfield 16, 3, 5, 1, .null, [224, 0]), (4, .aload_n 0, 1, 0, 0, .null, []), (5, .getfield 10, 3, 5, 0, .null, [223, 0]), (8, .invokevirtual 276, 3, 67, 2, .null, [415, 0, 416, 56, 417]), (11, .aload_n 0, 1, 0, 0, .null, []),
  (12, .iconst 1, 1, 0, 0, .null, []), (13, .putfield 54, 3, 5, 9, .null, [232, 0]), (16, .aload_n 0, 1, 0, 0, .null, []), (17, .getfield 16, 3, 5, 1, .null, [224, 0]), (20, .getfield 137, 3, 4, 4, .null, [142, 1]), (23, .ireturn, 1, 0, 0, .null, [])]
/-- SmallerInTheShop on ()I -/
def mp_136 : List (Nat × mm_I) := [(0, .aload_n 0, 1, 0, 0, .null, []), (1, .getfield 54, 3, 5, 9, .null, [232, 0]), (4, .ifCond .ne 10, 3, 14, 0, .null, []), (7, .aload_n 0, 1, 0, 0, .null, []), (8, .bipush (-3), 2, 0, 0, .null, []), (10, .invokevirtual 58, 3, 84, 2, .null, [258, 0, 260, 55, 0]),
  (13, .ireturn, 1, 0, 0, .null, []), (14, .aload_n 0, 1, 0, 0, .null, []), (15, .getfield 10, 3, 5, 0, .null, [223, 0]), (18, .aload_n 0, 1, 0, 0, .null, []), (19, .getfield 16, 3, 5, 1, .null, [224, 0]), (22, .invokevirtual 276, 3, 67, 2, .null, [415, 0, 416, 56, 417]),
  (25, .aload_n 0, 1, 0, 0, .null, []), (26, .getfield 10, 3, 5, 0, .null, [223, 0]), (29, .getfield 137, 3, 4, 4, .null, [142, 1]), (32, .ireturn, 1, 0, 0, .null, [])]
/-- SmallerInTheShop count (I)I -/
def mp_137 : List (Nat × mm_I) := [(0, .iload_n 1, 1, 0, 0, .null, []), (1, .tableswitch 117 0 7 #[47, 55, 63, 74, 82, 93, 104, 109], 47, 0, 0, .null, []), (48, .aload_n 0, 1, 0, 0, .null, []), (49, .getfield 10, 3, 5, 0, .null, [223, 0]), (52, .getfield 137, 3, 4, 4, .null, [142, 1]), (55, .ireturn, 1, 0, 0, .null, []),
  (56, .aload_n 0, 1, 0, 0, .null, []), (57, .getfield 10, 3, 5, 0, .null, [223, 0]), (60, .invokevirtual 256, 3, 81, 1, .null, [799, 0, 800, 56, 801]), (63, .ireturn, 1, 0, 0, .null, []), (64, .aload_n 0, 1, 0, 0, .null, []), (65, .getfield 10, 3, 5, 0, .null, [223, 0]),
  (68, .invokevirtual 92, 3, 73, 1, .null, [556, 0, 520, 56, 521]), (71, .invokevirtual 179, 3, 37, 1, .null, [635, 0, 636, 57, 637]), (74, .ireturn, 1, 0, 0, .null, []), (75, .aload_n 0, 1, 0, 0, .null, []), (76, .getfield 10, 3, 5, 0, .null, [223, 0]), (79, .getfield 140, 3, 4, 5, .null, [144, 1]),
  (82, .ireturn, 1, 0, 0, .null, []), (83, .aload_n 0, 1, 0, 0, .null, []), (84, .getfield 10, 3, 5, 0, .null, [223, 0]), (87, .invokevirtual 92, 3, 73, 1, .null, [556, 0, 520, 56, 521]), (90, .invokevirtual 279, 3, 38, 1, .null, [869, 0, 660, 57, 661]), (93, .ireturn, 1, 0, 0, .null, []),
  (94, .aload_n 0, 1, 0, 0, .null, []), (95, .getfield 10, 3, 5, 0, .null, [223, 0]), (98, .invokevirtual 92, 3, 73, 1, .null, [556, 0, 520, 56, 521]), (101, .invokevirtual 170, 3, 34, 1, .null, [622, 0, 623, 57, 624]), (104, .ireturn, 1, 0, 0, .null, []), (105, .aload_n 0, 1, 0, 0, .null, []),
  (106, .getfield 50, 3, 5, 8, .null, [231, 0]), (109, .ireturn, 1, 0, 0, .null, []), (110, .aload_n 0, 1, 0, 0, .null, []), (111, .getfield 32, 3, 5, 4, .null, [227, 0]), (114, .getfield 282, 3, 2, 1, .null, [202, 1]), (117, .ireturn, 1, 0, 0, .null, []),
  (118, .aload_n 0, 1, 0, 0, .null, []), (119, .iload_n 1, 1, 0, 0, .null, []), (120, .bipush 10, 2, 0, 0, .null, []), (122, .isub, 1, 0, 0, .null, []), (123, .invokevirtual 285, 3, 138, 2, .null, [870, 0, 872, 55, 32]), (126, .ireturn, 1, 0, 0, .null, [])]
/-- SmallerInTheShop countOfRefusals (I)I -/
def mp_138 : List (Nat × mm_I) := [(0, .iload_n 1, 1, 0, 0, .null, []), (1, .iconst 1, 1, 0, 0, .null, []), (2, .if_icmp .lt 18, 3, 20, 0, .null, []), (5, .iload_n 1, 1, 0, 0, .null, []), (6, .bipush 6, 2, 0, 0, .null, []), (8, .if_icmp .gt 12, 3, 20, 0, .null, []),
  (11, .aload_n 0, 1, 0, 0, .null, []), (12, .getfield 47, 3, 5, 7, .null, [230, 0]), (15, .iload_n 1, 1, 0, 0, .null, []), (16, .iaload, 1, 0, 0, .null, []), (17, .goto 5, 3, 22, 0, .null, []), (20, .bipush (-9), 2, 0, 0, .null, []),
  (22, .ireturn, 1, 0, 0, .null, [])]
/-- SmallerInTheShopModel <init> ()V -/
def mp_139 : List (Nat × mm_I) := [(0, .aload_n 0, 1, 0, 0, .null, []), (1, .invokespecial 1, 3, 999, 1, .null, [879, 76, 77]), (4, .aload_n 0, 1, 0, 0, .null, []), (5, .sipush 206, 3, 0, 0, .null, []), (8, .newarray .int, 2, 0, 0, .null, [130]), (10, .putfield 9, 3, 6, 0, .null, [883, 0]),
  (13, .aload_n 0, 1, 0, 0, .null, []), (14, .sipush 206, 3, 0, 0, .null, []), (17, .newarray .int, 2, 0, 0, .null, [130]), (19, .putfield 13, 3, 6, 1, .null, [884, 0]), (22, .aload_n 0, 1, 0, 0, .null, []), (23, .bipush 6, 2, 0, 0, .null, []),
  (25, .sipush 206, 3, 0, 0, .null, []), (28, .multianewarray 16 2, 4, 0, 0, .null, [880, 881, 130]), (32, .putfield 18, 3, 6, 2, .null, [885, 0]), (35, .aload_n 0, 1, 0, 0, .null, []), (36, .bipush 7, 2, 0, 0, .null, []), (38, .newarray .int, 2, 0, 0, .null, [130]),
  (40, .putfield 21, 3, 6, 4, .null, [887, 0]), (43, .aload_n 0, 1, 0, 0, .null, []), (44, .bipush 16, 2, 0, 0, .null, []), (46, .newarray .int, 2, 0, 0, .null, [130]), (48, .putfield 24, 3, 6, 5, .null, [888, 0]), (51, .aload_n 0, 1, 0, 0, .null, []),
  (52, .bipush 96, 2, 0, 0, .null, []), (54, .newarray .int, 2, 0, 0, .null, [130]), (56, .putfield 27, 3, 6, 7, .null, [890, 0]), (59, .aload_n 0, 1, 0, 0, .null, []), (60, .bipush 32, 2, 0, 0, .null, []), (62, .newarray .int, 2, 0, 0, .null, [130]),
  (64, .putfield 30, 3, 6, 9, .null, [892, 0]), (67, .aload_n 0, 1, 0, 0, .null, []), (68, .ldc 33, 2, 0, 0, .retAddr 37, []), (70, .putfield 35, 3, 6, 10, .null, [893, 0]), (73, .iconst 0, 1, 0, 0, .null, []), (74, .istore_n 1, 1, 0, 0, .null, []),
  (75, .iload_n 1, 1, 0, 0, .null, []), (76, .bipush 8, 2, 0, 0, .null, []), (78, .if_icmp .ge 39, 3, 117, 0, .null, []), (81, .aload_n 0, 1, 0, 0, .null, []), (82, .getfield 9, 3, 6, 0, .null, [883, 0]), (85, .bipush 40, 2, 0, 0, .null, []),
  (87, .iconst 4, 1, 0, 0, .null, []), (88, .iload_n 1, 1, 0, 0, .null, []), (89, .imul, 1, 0, 0, .null, []), (90, .iadd, 1, 0, 0, .null, []), (91, .iload_n 1, 1, 0, 0, .null, []), (92, .iconst 4, 1, 0, 0, .null, []),
  (93, .irem, 1, 0, 0, .null, []), (94, .iastore, 1, 0, 0, .null, []), (95, .aload_n 0, 1, 0, 0, .null, []), (96, .getfield 9, 3, 6, 0, .null, [883, 0]), (99, .bipush 40, 2, 0, 0, .null, []), (101, .iconst 4, 1, 0, 0, .null, []),
  (102, .iload_n 1, 1, 0, 0, .null, []), (103, .imul, 1, 0, 0, .null, []), (104, .iadd, 1, 0, 0, .null, []), (105, .iconst 1, 1, 0, 0, .null, []), (106, .iadd, 1, 0, 0, .null, []), (107, .iload_n 1, 1, 0, 0, .null, []),
  (108, .iconst 4, 1, 0, 0, .null, []), (109, .idiv, 1, 0, 0, .null, []), (110, .iastore, 1, 0, 0, .null, []), (111, .iinc 1 1, 3, 0, 0, .null, []), (114, .goto (-39), 3, 75, 0, .null, []), (117, .return_, 1, 0, 0, .null, [])]
/-- SmallerInTheShopModel letter (I)I -/
def mp_140 : List (Nat × mm_I) := [(0, .iload_n 1, 1, 0, 0, .null, []), (1, .ifCond .ge 10, 3, 11, 0, .null, []), (4, .aload_n 0, 1, 0, 0, .null, []), (5, .bipush (-4), 2, 0, 0, .null, []), (7, .invokevirtual 41, 3, 141, 2, .null, [945, 0, 947, 61, 33]), (10, .ireturn, 1, 0, 0, .null, []),
  (11, .iload_n 1, 1, 0, 0, .null, []), (12, .sipush 255, 3, 0, 0, .null, []), (15, .if_icmp .gt 12, 3, 27, 0, .null, []), (18, .aload_n 0, 1, 0, 0, .null, []), (19, .getfield 109, 3, 6, 8, .null, [891, 0]), (22, .bipush 96, 2, 0, 0, .null, []),
  (24, .if_icmp .ne 10, 3, 34, 0, .null, []), (27, .aload_n 0, 1, 0, 0, .null, []), (28, .bipush (-6), 2, 0, 0, .null, []), (30, .invokevirtual 41, 3, 141, 2, .null, [945, 0, 947, 61, 33]), (33, .ireturn, 1, 0, 0, .null, []), (34, .aload_n 0, 1, 0, 0, .null, []),
  (35, .getfield 27, 3, 6, 7, .null, [890, 0]), (38, .aload_n 0, 1, 0, 0, .null, []), (39, .getfield 109, 3, 6, 8, .null, [891, 0]), (42, .iload_n 1, 1, 0, 0, .null, []), (43, .iastore, 1, 0, 0, .null, []), (44, .aload_n 0, 1, 0, 0, .null, []),
  (45, .dup, 1, 0, 0, .null, []), (46, .getfield 109, 3, 6, 8, .null, [891, 0]), (49, .iconst 1, 1, 0, 0, .null, []), (50, .iadd, 1, 0, 0, .null, []), (51, .putfield 109, 3, 6, 8, .null, [891, 0]), (54, .aload_n 0, 1, 0, 0, .null, []),
  (55, .getfield 109, 3, 6, 8, .null, [891, 0]), (58, .ireturn, 1, 0, 0, .null, [])]
/-- SmallerInTheShopModel refused (I)I -/
def mp_141 : List (Nat × mm_I) := [(0, .aload_n 0, 1, 0, 0, .null, []), (1, .getfield 21, 3, 6, 4, .null, [887, 0]), (4, .iload_n 1, 1, 0, 0, .null, []), (5, .ineg, 1, 0, 0, .null, []), (6, .dup2, 1, 0, 0, .null, []), (7, .iaload, 1, 0, 0, .null, []),
  (8, .iconst 1, 1, 0, 0, .null, []), (9, .iadd, 1, 0, 0, .null, []), (10, .iastore, 1, 0, 0, .null, []), (11, .iload_n 1, 1, 0, 0, .null, []), (12, .ireturn, 1, 0, 0, .null, [])]
/-- SmallerInTheShopModel map ()I -/
def mp_142 : List (Nat × mm_I) := [(0, .aload_n 0, 1, 0, 0, .null, []), (1, .getfield 109, 3, 6, 8, .null, [891, 0]), (4, .istore_n 1, 1, 0, 0, .null, []), (5, .aload_n 0, 1, 0, 0, .null, []), (6, .iconst 0, 1, 0, 0, .null, []), (7, .putfield 109, 3, 6, 8, .null, [891, 0]),
  (10, .aload_n 0, 1, 0, 0, .null, []), (11, .iload_n 1, 1, 0, 0, .null, []), (12, .invokevirtual 143, 3, 143, 2, .null, [953, 0, 955, 61, 34]), (15, .istore_n 2, 1, 0, 0, .null, []), (16, .iload_n 2, 1, 0, 0, .null, []), (17, .ifCond .lt 9, 3, 26, 0, .null, []),
  (20, .sipush (-1000), 3, 0, 0, .null, []), (23, .iload_n 2, 1, 0, 0, .null, []), (24, .isub, 1, 0, 0, .null, []), (25, .ireturn, 1, 0, 0, .null, []), (26, .aload_n 0, 1, 0, 0, .null, []), (27, .getfield 9, 3, 6, 0, .null, [883, 0]),
  (30, .aload_n 0, 1, 0, 0, .null, []), (31, .getfield 18, 3, 6, 2, .null, [885, 0]), (34, .iconst 0, 1, 0, 0, .null, []), (35, .aaload, 1, 0, 0, .null, []), (36, .invokestatic 146, 3, 147, 2, .null, [970, 0, 971, 61]), (39, .iconst 0, 1, 0, 0, .null, []),
  (40, .istore_n 3, 1, 0, 0, .null, []), (41, .iconst 0, 1, 0, 0, .null, []), (42, .istore 4, 2, 0, 0, .null, []), (44, .iload 4, 2, 0, 0, .null, []), (46, .iload_n 1, 1, 0, 0, .null, []), (47, .if_icmp .ge 48, 3, 95, 0, .null, []),
  (50, .aload_n 0, 1, 0, 0, .null, []), (51, .aload_n 0, 1, 0, 0, .null, []), (52, .getfield 18, 3, 6, 2, .null, [885, 0]), (55, .iconst 0, 1, 0, 0, .null, []), (56, .aaload, 1, 0, 0, .null, []), (57, .iload 4, 2, 0, 0, .null, []),
  (59, .invokevirtual 150, 3, 148, 3, .null, [973, 0, 975, 61, 36]), (62, .ifCond .ne 10, 3, 72, 0, .null, []), (65, .sipush (-2000), 3, 0, 0, .null, []), (68, .iload 4, 2, 0, 0, .null, []), (70, .isub, 1, 0, 0, .null, []), (71, .ireturn, 1, 0, 0, .null, []),
  (72, .iload 4, 2, 0, 0, .null, []), (74, .aload_n 0, 1, 0, 0, .null, []), (75, .getfield 27, 3, 6, 7, .null, [890, 0]), (78, .iload 4, 2, 0, 0, .null, []), (80, .iaload, 1, 0, 0, .null, []), (81, .invokestatic 122, 3, 144, 1, .null, [957, 0, 958, 61]),
  (84, .iconst 1, 1, 0, 0, .null, []), (85, .iadd, 1, 0, 0, .null, []), (86, .iadd, 1, 0, 0, .null, []), (87, .istore 4, 2, 0, 0, .null, []), (89, .iinc 3 1, 3, 0, 0, .null, []), (92, .goto (-48), 3, 44, 0, .null, []),
  (95, .aload_n 0, 1, 0, 0, .null, []), (96, .getfield 18, 3, 6, 2, .null, [885, 0]), (99, .iconst 0, 1, 0, 0, .null, []), (100, .aaload, 1, 0, 0, .null, []), (101, .aload_n 0, 1, 0, 0, .null, []), (102, .getfield 9, 3, 6, 0, .null, [883, 0]),
  (105, .invokestatic 146, 3, 147, 2, .null, [970, 0, 971, 61]), (108, .iload_n 3, 1, 0, 0, .null, []), (109, .ireturn, 1, 0, 0, .null, [])]
/-- SmallerInTheShopModel faultOf (I)I -/
def mp_143 : List (Nat × mm_I) := [(0, .iconst 0, 1, 0, 0, .null, []), (1, .istore_n 2, 1, 0, 0, .null, []), (2, .iload_n 2, 1, 0, 0, .null, []), (3, .iload_n 1, 1, 0, 0, .null, []), (4, .if_icmp .ge 61, 3, 65, 0, .null, []), (7, .aload_n 0, 1, 0, 0, .null, []),
  (8, .getfield 27, 3, 6, 7, .null, [890, 0]), (11, .iload_n 2, 1, 0, 0, .null, []), (12, .iaload, 1, 0, 0, .null, []), (13, .invokestatic 122, 3, 144, 1, .null, [957, 0, 958, 61]), (16, .istore_n 3, 1, 0, 0, .null, []), (17, .iconst 0, 1, 0, 0, .null, []),
  (18, .istore 4, 2, 0, 0, .null, []), (20, .iload 4, 2, 0, 0, .null, []), (22, .iload_n 3, 1, 0, 0, .null, []), (23, .if_icmp .gt 33, 3, 56, 0, .null, []), (26, .iload_n 2, 1, 0, 0, .null, []), (27, .iload 4, 2, 0, 0, .null, []),
  (29, .iadd, 1, 0, 0, .null, []), (30, .iload_n 1, 1, 0, 0, .null, []), (31, .if_icmp .eq 14, 3, 45, 0, .null, []), (34, .aload_n 0, 1, 0, 0, .null, []), (35, .iload_n 2, 1, 0, 0, .null, []), (36, .iload 4, 2, 0, 0, .null, []),
  (38, .iload_n 3, 1, 0, 0, .null, []), (39, .invokevirtual 125, 3, 145, 4, .null, [960, 0, 962, 61, 35]), (42, .ifCond .ne 8, 3, 50, 0, .null, []), (45, .iload_n 2, 1, 0, 0, .null, []), (46, .iload 4, 2, 0, 0, .null, []), (48, .iadd, 1, 0, 0, .null, []),
  (49, .ireturn, 1, 0, 0, .null, []), (50, .iinc 4 1, 3, 0, 0, .null, []), (53, .goto (-33), 3, 20, 0, .null, []), (56, .iload_n 2, 1, 0, 0, .null, []), (57, .iload_n 3, 1, 0, 0, .null, []), (58, .iconst 1, 1, 0, 0, .null, []),
  (59, .iadd, 1, 0, 0, .null, []), (60, .iadd, 1, 0, 0, .null, []), (61, .istore_n 2, 1, 0, 0, .null, []), (62, .goto (-60), 3, 2, 0, .null, []), (65, .iload_n 1, 1, 0, 0, .null, []), (66, .ifCond .ne 7, 3, 73, 0, .null, []),
  (69, .iconst 0, 1, 0, 0, .null, []), (70, .goto 4, 3, 74, 0, .null, []), (73, .iconst (-1), 1, 0, 0, .null, []), (74, .ireturn, 1, 0, 0, .null, [])]
/-- SmallerInTheShopModel sizeOf (I)I -/
def mp_144 : List (Nat × mm_I) := [(0, .iload_n 0, 1, 0, 0, .null, []), (1, .bipush 107, 2, 0, 0, .null, []), (3, .if_icmp .eq 9, 3, 12, 0, .null, []), (6, .iload_n 0, 1, 0, 0, .null, []), (7, .bipush 119, 2, 0, 0, .null, []), (9, .if_icmp .ne 7, 3, 16, 0, .null, []),
  (12, .iconst 4, 1, 0, 0, .null, []), (13, .goto 24, 3, 37, 0, .null, []), (16, .iload_n 0, 1, 0, 0, .null, []), (17, .bipush 102, 2, 0, 0, .null, []), (19, .if_icmp .ne 7, 3, 26, 0, .null, []), (22, .iconst 3, 1, 0, 0, .null, []),
  (23, .goto 14, 3, 37, 0, .null, []), (26, .iload_n 0, 1, 0, 0, .null, []), (27, .bipush 111, 2, 0, 0, .null, []), (29, .if_icmp .ne 7, 3, 36, 0, .null, []), (32, .iconst 1, 1, 0, 0, .null, []), (33, .goto 4, 3, 37, 0, .null, []),
  (36, .iconst 2, 1, 0, 0, .null, []), (37, .ireturn, 1, 0, 0, .null, [])]
/-- SmallerInTheShopModel fits (III)Z -/
def mp_145 : List (Nat × mm_I) := [(0, .aload_n 0, 1, 0, 0, .null, []), (1, .getfield 27, 3, 6, 7, .null, [890, 0]), (4, .iload_n 1, 1, 0, 0, .null, []), (5, .iload_n 2, 1, 0, 0, .null, []), (6, .iadd, 1, 0, 0, .null, []), (7, .iaload, 1, 0, 0, .null, []),
  (8, .istore 4, 2, 0, 0, .null, []), (10, .iload_n 2, 1, 0, 0, .null, []), (11, .ifCond .ne 44, 3, 55, 0, .null, []), (14, .iload 4, 2, 0, 0, .null, []), (16, .bipush 107, 2, 0, 0, .null, []), (18, .if_icmp .eq 31, 3, 49, 0, .null, []),
  (21, .iload 4, 2, 0, 0, .null, []), (23, .bipush 119, 2, 0, 0, .null, []), (25, .if_icmp .eq 24, 3, 49, 0, .null, []), (28, .iload 4, 2, 0, 0, .null, []), (30, .bipush 102, 2, 0, 0, .null, []), (32, .if_icmp .eq 17, 3, 49, 0, .null, []),
  (35, .iload 4, 2, 0, 0, .null, []), (37, .bipush 111, 2, 0, 0, .null, []), (39, .if_icmp .eq 10, 3, 49, 0, .null, []), (42, .iload 4, 2, 0, 0, .null, []), (44, .bipush 99, 2, 0, 0, .null, []), (46, .if_icmp .ne 7, 3, 53, 0, .null, []),
  (49, .iconst 1, 1, 0, 0, .null, []), (50, .goto 4, 3, 54, 0, .null, []), (53, .iconst 0, 1, 0, 0, .null, []), (54, .ireturn, 1, 0, 0, .null, []), (55, .iload_n 2, 1, 0, 0, .null, []), (56, .iload_n 3, 1, 0, 0, .null, []),
  (57, .if_icmp .ne 16, 3, 73, 0, .null, []), (60, .iload 4, 2, 0, 0, .null, []), (62, .bipush 59, 2, 0, 0, .null, []), (64, .if_icmp .ne 7, 3, 71, 0, .null, []), (67, .iconst 1, 1, 0, 0, .null, []), (68, .goto 4, 3, 72, 0, .null, []),
  (71, .iconst 0, 1, 0, 0, .null, []), (72, .ireturn, 1, 0, 0, .null, []), (73, .aload_n 0, 1, 0, 0, .null, []), (74, .getfield 27, 3, 6, 7, .null, [890, 0]), (77, .iload_n 1, 1, 0, 0, .null, []), (78, .iaload, 1, 0, 0, .null, []),
  (79, .bipush 107, 2, 0, 0, .null, []), (81, .if_icmp .ne 26, 3, 107, 0, .null, []), (84, .iload_n 2, 1, 0, 0, .null, []), (85, .iconst 2, 1, 0, 0, .null, []), (86, .if_icmp .ne 21, 3, 107, 0, .null, []), (89, .ldc 33, 2, 0, 0, .retAddr 37, []),
  (91, .iload 4, 2, 0, 0, .null, []), (93, .invokevirtual 113, 3, 7, 2, .null, [964, 0, 348, 62, 349]), (96, .ifCond .lt 7, 3, 103, 0, .null, []), (99, .iconst 1, 1, 0, 0, .null, []), (100, .goto 19, 3, 119, 0, .null, []), (103, .iconst 0, 1, 0, 0, .null, []),
  (104, .goto 15, 3, 119, 0, .null, []), (107, .iload 4, 2, 0, 0, .null, []), (109, .i2l, 1, 0, 0, .null, []), (110, .ldc2_w 118, 3, 0, 0, .long (48), [965]), (113, .ldc2_w 120, 3, 0, 0, .long (57), [966]), (116, .invokestatic 57, 3, 146, 3, .null, [967, 0, 968, 61]),
  (119, .ireturn, 1, 0, 0, .null, [])]
/-- SmallerInTheShopModel in (JJJ)Z -/
def mp_146 : List (Nat × mm_I) := [(0, .lload_n 0, 1, 0, 0, .null, []), (1, .lload_n 2, 1, 0, 0, .null, []), (2, .lcmp, 1, 0, 0, .null, []), (3, .ifCond .lt 14, 3, 17, 0, .null, []), (6, .lload_n 0, 1, 0, 0, .null, []), (7, .lload 4, 2, 0, 0, .null, []),
  (9, .lcmp, 1, 0, 0, .null, []), (10, .ifCond .gt 7, 3, 17, 0, .null, []), (13, .iconst 1, 1, 0, 0, .null, []), (14, .goto 4, 3, 18, 0, .null, []), (17, .iconst 0, 1, 0, 0, .null, []), (18, .ireturn, 1, 0, 0, .null, [])]
/-- SmallerInTheShopModel copies ([I[I)V -/
def mp_147 : List (Nat × mm_I) := [(0, .iconst 0, 1, 0, 0, .null, []), (1, .istore_n 2, 1, 0, 0, .null, []), (2, .iload_n 2, 1, 0, 0, .null, []), (3, .sipush 206, 3, 0, 0, .null, []), (6, .if_icmp .ge 15, 3, 21, 0, .null, []), (9, .aload_n 1, 1, 0, 0, .null, []),
  (10, .iload_n 2, 1, 0, 0, .null, []), (11, .aload_n 0, 1, 0, 0, .null, []), (12, .iload_n 2, 1, 0, 0, .null, []), (13, .iaload, 1, 0, 0, .null, []), (14, .iastore, 1, 0, 0, .null, []), (15, .iinc 2 1, 3, 0, 0, .null, []),
  (18, .goto (-16), 3, 2, 0, .null, []), (21, .return_, 1, 0, 0, .null, [])]
/-- SmallerInTheShopModel comes ([II)Z -/
def mp_148 : List (Nat × mm_I) := [(0, .aload_n 0, 1, 0, 0, .null, []), (1, .getfield 27, 3, 6, 7, .null, [890, 0]), (4, .iload_n 2, 1, 0, 0, .null, []), (5, .iaload, 1, 0, 0, .null, []), (6, .lookupswitch 183 #[(102, 119), (107, 42), (111, 168), (119, 87)], 42, 0, 0, .null, []), (48, .aload_n 1, 1, 0, 0, .null, []),
  (49, .iconst 0, 1, 0, 0, .null, []), (50, .aload_n 0, 1, 0, 0, .null, []), (51, .iload_n 2, 1, 0, 0, .null, []), (52, .iconst 1, 1, 0, 0, .null, []), (53, .iadd, 1, 0, 0, .null, []), (54, .invokevirtual 129, 3, 149, 2, .null, [977, 0, 979, 61, 37]),
  (57, .iadd, 1, 0, 0, .null, []), (58, .ldc 33, 2, 0, 0, .retAddr 37, []), (60, .aload_n 0, 1, 0, 0, .null, []), (61, .getfield 27, 3, 6, 7, .null, [890, 0]), (64, .iload_n 2, 1, 0, 0, .null, []), (65, .iconst 2, 1, 0, 0, .null, []),
  (66, .iadd, 1, 0, 0, .null, []), (67, .iaload, 1, 0, 0, .null, []), (68, .invokevirtual 113, 3, 7, 2, .null, [964, 0, 348, 62, 349]), (71, .iastore, 1, 0, 0, .null, []), (72, .aload_n 1, 1, 0, 0, .null, []), (73, .bipush 10, 2, 0, 0, .null, []),
  (75, .aload_n 0, 1, 0, 0, .null, []), (76, .iload_n 2, 1, 0, 0, .null, []), (77, .iconst 1, 1, 0, 0, .null, []), (78, .iadd, 1, 0, 0, .null, []), (79, .invokevirtual 129, 3, 149, 2, .null, [977, 0, 979, 61, 37]), (82, .iadd, 1, 0, 0, .null, []),
  (83, .aload_n 0, 1, 0, 0, .null, []), (84, .iload_n 2, 1, 0, 0, .null, []), (85, .iconst 3, 1, 0, 0, .null, []), (86, .iadd, 1, 0, 0, .null, []), (87, .invokevirtual 129, 3, 149, 2, .null, [977, 0, 979, 61, 37]), (90, .iastore, 1, 0, 0, .null, []),
  (91, .iconst 1, 1, 0, 0, .null, []), (92, .ireturn, 1, 0, 0, .null, []), (93, .aload_n 1, 1, 0, 0, .null, []), (94, .bipush 20, 2, 0, 0, .null, []), (96, .aload_n 0, 1, 0, 0, .null, []), (97, .iload_n 2, 1, 0, 0, .null, []),
  (98, .iconst 1, 1, 0, 0, .null, []), (99, .iadd, 1, 0, 0, .null, []), (100, .invokevirtual 129, 3, 149, 2, .null, [977, 0, 979, 61, 37]), (103, .iadd, 1, 0, 0, .null, []), (104, .bipush 10, 2, 0, 0, .null, []), (106, .aload_n 0, 1, 0, 0, .null, []),
  (107, .iload_n 2, 1, 0, 0, .null, []), (108, .iconst 2, 1, 0, 0, .null, []), (109, .iadd, 1, 0, 0, .null, []), (110, .invokevirtual 129, 3, 149, 2, .null, [977, 0, 979, 61, 37]), (113, .imul, 1, 0, 0, .null, []), (114, .aload_n 0, 1, 0, 0, .null, []),
  (115, .iload_n 2, 1, 0, 0, .null, []), (116, .iconst 3, 1, 0, 0, .null, []), (117, .iadd, 1, 0, 0, .null, []), (118, .invokevirtual 129, 3, 149, 2, .null, [977, 0, 979, 61, 37]), (121, .iadd, 1, 0, 0, .null, []), (122, .iastore, 1, 0, 0, .null, []),
  (123, .iconst 1, 1, 0, 0, .null, []), (124, .ireturn, 1, 0, 0, .null, []), (125, .aload_n 1, 1, 0, 0, .null, []), (126, .aload_n 0, 1, 0, 0, .null, []), (127, .iload_n 2, 1, 0, 0, .null, []), (128, .iconst 1, 1, 0, 0, .null, []),
  (129, .iadd, 1, 0, 0, .null, []), (130, .invokevirtual 129, 3, 149, 2, .null, [977, 0, 979, 61, 37]), (133, .invokestatic 132, 3, 150, 2, .null, [981, 0, 982, 61]), (136, .ifCond .eq 14, 3, 150, 0, .null, []), (139, .aload_n 0, 1, 0, 0, .null, []), (140, .iload_n 2, 1, 0, 0, .null, []),
  (141, .iconst 2, 1, 0, 0, .null, []), (142, .iadd, 1, 0, 0, .null, []), (143, .invokevirtual 129, 3, 149, 2, .null, [977, 0, 979, 61, 37]), (146, .iconst 3, 1, 0, 0, .null, []), (147, .if_icmp .le 5, 3, 152, 0, .null, []), (150, .iconst 0, 1, 0, 0, .null, []),
  (151, .ireturn, 1, 0, 0, .null, []), (152, .aload_n 0, 1, 0, 0, .null, []), (153, .aload_n 1, 1, 0, 0, .null, []), (154, .aload_n 0, 1, 0, 0, .null, []), (155, .iload_n 2, 1, 0, 0, .null, []), (156, .iconst 1, 1, 0, 0, .null, []),
  (157, .iadd, 1, 0, 0, .null, []), (158, .invokevirtual 129, 3, 149, 2, .null, [977, 0, 979, 61, 37]), (161, .aload_n 0, 1, 0, 0, .null, []), (162, .iload_n 2, 1, 0, 0, .null, []), (163, .iconst 2, 1, 0, 0, .null, []), (164, .iadd, 1, 0, 0, .null, []),
  (165, .invokevirtual 129, 3, 149, 2, .null, [977, 0, 979, 61, 37]), (168, .invokevirtual 136, 3, 152, 4, .null, [989, 0, 991, 61, 38]), (171, .istore_n 3, 1, 0, 0, .null, []), (172, .iconst 1, 1, 0, 0, .null, []), (173, .ireturn, 1, 0, 0, .null, []), (174, .aload_n 1, 1, 0, 0, .null, []),
  (175, .bipush 73, 2, 0, 0, .null, []), (177, .iaload, 1, 0, 0, .null, []), (178, .ifCond .ne 5, 3, 183, 0, .null, []), (181, .iconst 0, 1, 0, 0, .null, []), (182, .ireturn, 1, 0, 0, .null, []), (183, .aload_n 1, 1, 0, 0, .null, []),
  (184, .invokestatic 139, 3, 164, 1, .null, [1028, 0, 1029, 61]), (187, .iconst 1, 1, 0, 0, .null, []), (188, .ireturn, 1, 0, 0, .null, []), (189, .aload_n 0, 1, 0, 0, .null, []), (190, .iload_n 2, 1, 0, 0, .null, []), (191, .iconst 1, 1, 0, 0, .null, []),
  (192, .iadd, 1, 0, 0, .null, []), (193, .invokevirtual 129, 3, 149, 2, .null, [977, 0, 979, 61, 37]), (196, .bipush 7, 2, 0, 0, .null, []), (198, .if_icmp .le 5, 3, 203, 0, .null, []), (201, .iconst 0, 1, 0, 0, .null, []), (202, .ireturn, 1, 0, 0, .null, []),
  (203, .aload_n 1, 1, 0, 0, .null, []), (204, .bipush 72, 2, 0, 0, .null, []), (206, .aload_n 0, 1, 0, 0, .null, []), (207, .iload_n 2, 1, 0, 0, .null, []), (208, .iconst 1, 1, 0, 0, .null, []), (209, .iadd, 1, 0, 0, .null, []),
  (210, .invokevirtual 129, 3, 149, 2, .null, [977, 0, 979, 61, 37]), (213, .iastore, 1, 0, 0, .null, []), (214, .iconst 1, 1, 0, 0, .null, []), (215, .ireturn, 1, 0, 0, .null, [])]
/-- SmallerInTheShopModel digit (I)I -/
def mp_149 : List (Nat × mm_I) := [(0, .aload_n 0, 1, 0, 0, .null, []), (1, .getfield 27, 3, 6, 7, .null, [890, 0]), (4, .iload_n 1, 1, 0, 0, .null, []), (5, .iaload, 1, 0, 0, .null, []), (6, .bipush 48, 2, 0, 0, .null, []), (8, .isub, 1, 0, 0, .null, []),
  (9, .ireturn, 1, 0, 0, .null, [])]
/-- SmallerInTheShopModel isLine ([II)Z -/
def mp_150 : List (Nat × mm_I) := [(0, .iload_n 1, 1, 0, 0, .null, []), (1, .i2l, 1, 0, 0, .null, []), (2, .lconst 1, 1, 0, 0, .null, []), (3, .ldc2_w 55, 3, 0, 0, .long (3), [984]), (6, .invokestatic 57, 3, 146, 3, .null, [967, 0, 968, 61]), (9, .ifCond .eq 12, 3, 21, 0, .null, []),
  (12, .iload_n 1, 1, 0, 0, .null, []), (13, .aload_n 0, 1, 0, 0, .null, []), (14, .iconst 0, 1, 0, 0, .null, []), (15, .invokestatic 61, 3, 151, 2, .null, [985, 0, 986, 61]), (18, .if_icmp .lt 17, 3, 35, 0, .null, []), (21, .iload_n 1, 1, 0, 0, .null, []),
  (22, .iconst 4, 1, 0, 0, .null, []), (23, .if_icmp .ne 16, 3, 39, 0, .null, []), (26, .aload_n 0, 1, 0, 0, .null, []), (27, .iconst 1, 1, 0, 0, .null, []), (28, .invokestatic 61, 3, 151, 2, .null, [985, 0, 986, 61]), (31, .iconst 2, 1, 0, 0, .null, []),
  (32, .if_icmp .ne 7, 3, 39, 0, .null, []), (35, .iconst 1, 1, 0, 0, .null, []), (36, .goto 4, 3, 40, 0, .null, []), (39, .iconst 0, 1, 0, 0, .null, []), (40, .ireturn, 1, 0, 0, .null, [])]
/-- SmallerInTheShopModel wide ([II)I -/
def mp_151 : List (Nat × mm_I) := [(0, .iconst 0, 1, 0, 0, .null, []), (1, .istore_n 2, 1, 0, 0, .null, []), (2, .iconst 0, 1, 0, 0, .null, []), (3, .istore_n 3, 1, 0, 0, .null, []), (4, .iload_n 3, 1, 0, 0, .null, []), (5, .bipush 8, 2, 0, 0, .null, []),
  (7, .if_icmp .ge 24, 3, 31, 0, .null, []), (10, .iload_n 2, 1, 0, 0, .null, []), (11, .aload_n 0, 1, 0, 0, .null, []), (12, .bipush 40, 2, 0, 0, .null, []), (14, .iconst 4, 1, 0, 0, .null, []), (15, .iload_n 3, 1, 0, 0, .null, []),
  (16, .imul, 1, 0, 0, .null, []), (17, .iadd, 1, 0, 0, .null, []), (18, .iload_n 1, 1, 0, 0, .null, []), (19, .iadd, 1, 0, 0, .null, []), (20, .iaload, 1, 0, 0, .null, []), (21, .invokestatic 49, 3, 997, 2, .null, [988, 0, 363, 66, 364]),
  (24, .istore_n 2, 1, 0, 0, .null, []), (25, .iinc 3 1, 3, 0, 0, .null, []), (28, .goto (-24), 3, 4, 0, .null, []), (31, .iload_n 2, 1, 0, 0, .null, []), (32, .iconst 1, 1, 0, 0, .null, []), (33, .iadd, 1, 0, 0, .null, []),
  (34, .ireturn, 1, 0, 0, .null, [])]
/-- SmallerInTheShopModel folds ([III)I -/
def mp_152 : List (Nat × mm_I) := [(0, .aload_n 1, 1, 0, 0, .null, []), (1, .iload_n 2, 1, 0, 0, .null, []), (2, .invokestatic 84, 3, 153, 2, .null, [993, 0, 994, 61]), (5, .istore 4, 2, 0, 0, .null, []), (7, .aload_n 1, 1, 0, 0, .null, []), (8, .iload_n 2, 1, 0, 0, .null, []),
  (9, .iload_n 3, 1, 0, 0, .null, []), (10, .invokestatic 94, 3, 156, 3, .null, [1003, 0, 1004, 61]), (13, .istore 5, 2, 0, 0, .null, []), (15, .aload_n 1, 1, 0, 0, .null, []), (16, .iload 4, 2, 0, 0, .null, []), (18, .invokestatic 97, 3, 160, 2, .null, [1015, 0, 1016, 61]),
  (21, .iconst 0, 1, 0, 0, .null, []), (22, .istore 6, 2, 0, 0, .null, []), (24, .iload 6, 2, 0, 0, .null, []), (26, .bipush 10, 2, 0, 0, .null, []), (28, .if_icmp .ge 76, 3, 104, 0, .null, []), (31, .iload 4, 2, 0, 0, .null, []),
  (33, .iload 6, 2, 0, 0, .null, []), (35, .ishr, 1, 0, 0, .null, []), (36, .iconst 1, 1, 0, 0, .null, []), (37, .iand, 1, 0, 0, .null, []), (38, .iconst 1, 1, 0, 0, .null, []), (39, .if_icmp .ne 59, 3, 98, 0, .null, []),
  (42, .aload_n 1, 1, 0, 0, .null, []), (43, .iload 6, 2, 0, 0, .null, []), (45, .iload_n 3, 1, 0, 0, .null, []), (46, .invokestatic 87, 3, 157, 3, .null, [1006, 0, 1007, 61]), (49, .istore 7, 2, 0, 0, .null, []), (51, .aload_n 1, 1, 0, 0, .null, []),
  (52, .bipush 30, 2, 0, 0, .null, []), (54, .iload 6, 2, 0, 0, .null, []), (56, .iadd, 1, 0, 0, .null, []), (57, .iload 7, 2, 0, 0, .null, []), (59, .iastore, 1, 0, 0, .null, []), (60, .aload_n 1, 1, 0, 0, .null, []),
  (61, .bipush 20, 2, 0, 0, .null, []), (63, .iload 6, 2, 0, 0, .null, []), (65, .iadd, 1, 0, 0, .null, []), (66, .bipush 99, 2, 0, 0, .null, []), (68, .aload_n 1, 1, 0, 0, .null, []), (69, .bipush 20, 2, 0, 0, .null, []),
  (71, .iload 6, 2, 0, 0, .null, []), (73, .iadd, 1, 0, 0, .null, []), (74, .iaload, 1, 0, 0, .null, []), (75, .aload_n 1, 1, 0, 0, .null, []), (76, .iconst 0, 1, 0, 0, .null, []), (77, .iload 6, 2, 0, 0, .null, []),
  (79, .iadd, 1, 0, 0, .null, []), (80, .iaload, 1, 0, 0, .null, []), (81, .aload_n 1, 1, 0, 0, .null, []), (82, .bipush 20, 2, 0, 0, .null, []), (84, .iload 6, 2, 0, 0, .null, []), (86, .iadd, 1, 0, 0, .null, []),
  (87, .iaload, 1, 0, 0, .null, []), (88, .iload 7, 2, 0, 0, .null, []), (90, .invokestatic 101, 3, 161, 3, .null, [1018, 0, 1019, 61]), (93, .iadd, 1, 0, 0, .null, []), (94, .invokestatic 81, 3, 998, 2, .null, [1002, 0, 366, 66, 367]), (97, .iastore, 1, 0, 0, .null, []),
  (98, .iinc 6 1, 3, 0, 0, .null, []), (101, .goto (-77), 3, 24, 0, .null, []), (104, .aload_n 0, 1, 0, 0, .null, []), (105, .aload_n 1, 1, 0, 0, .null, []), (106, .iload_n 2, 1, 0, 0, .null, []), (107, .iload_n 3, 1, 0, 0, .null, []),
  (108, .invokevirtual 105, 3, 162, 4, .null, [1021, 0, 1023, 61, 39]), (111, .iload 5, 2, 0, 0, .null, []), (113, .ireturn, 1, 0, 0, .null, [])]
/-- SmallerInTheShopModel creases ([II)I -/
def mp_153 : List (Nat × mm_I) := [(0, .iload_n 1, 1, 0, 0, .null, []), (1, .iconst 4, 1, 0, 0, .null, []), (2, .if_icmp .ne 7, 3, 9, 0, .null, []), (5, .iconst 1, 1, 0, 0, .null, []), (6, .goto 4, 3, 10, 0, .null, []), (9, .iconst 0, 1, 0, 0, .null, []),
  (10, .istore_n 2, 1, 0, 0, .null, []), (11, .iload_n 1, 1, 0, 0, .null, []), (12, .iconst 4, 1, 0, 0, .null, []), (13, .if_icmp .ne 7, 3, 20, 0, .null, []), (16, .iconst 1, 1, 0, 0, .null, []), (17, .goto 4, 3, 21, 0, .null, []),
  (20, .iload_n 1, 1, 0, 0, .null, []), (21, .istore_n 3, 1, 0, 0, .null, []), (22, .iconst 0, 1, 0, 0, .null, []), (23, .istore 4, 2, 0, 0, .null, []), (25, .iconst 0, 1, 0, 0, .null, []), (26, .istore 5, 2, 0, 0, .null, []),
  (28, .iload 5, 2, 0, 0, .null, []), (30, .bipush 10, 2, 0, 0, .null, []), (32, .if_icmp .ge 127, 3, 159, 0, .null, []), (35, .bipush 40, 2, 0, 0, .null, []), (37, .iconst 4, 1, 0, 0, .null, []), (38, .iload 5, 2, 0, 0, .null, []),
  (40, .invokestatic 75, 3, 154, 1, .null, [996, 0, 997, 61]), (43, .imul, 1, 0, 0, .null, []), (44, .iadd, 1, 0, 0, .null, []), (45, .istore 6, 2, 0, 0, .null, []), (47, .bipush 40, 2, 0, 0, .null, []), (49, .iconst 4, 1, 0, 0, .null, []),
  (50, .iload 5, 2, 0, 0, .null, []), (52, .invokestatic 78, 3, 155, 1, .null, [999, 0, 1000, 61]), (55, .imul, 1, 0, 0, .null, []), (56, .iadd, 1, 0, 0, .null, []), (57, .istore 7, 2, 0, 0, .null, []), (59, .aload_n 0, 1, 0, 0, .null, []),
  (60, .iload 6, 2, 0, 0, .null, []), (62, .iconst 1, 1, 0, 0, .null, []), (63, .iadd, 1, 0, 0, .null, []), (64, .iload_n 2, 1, 0, 0, .null, []), (65, .isub, 1, 0, 0, .null, []), (66, .iaload, 1, 0, 0, .null, []),
  (67, .aload_n 0, 1, 0, 0, .null, []), (68, .iload 7, 2, 0, 0, .null, []), (70, .iconst 1, 1, 0, 0, .null, []), (71, .iadd, 1, 0, 0, .null, []), (72, .iload_n 2, 1, 0, 0, .null, []), (73, .isub, 1, 0, 0, .null, []),
  (74, .iaload, 1, 0, 0, .null, []), (75, .if_icmp .ne 47, 3, 122, 0, .null, []), (78, .aload_n 0, 1, 0, 0, .null, []), (79, .iload 6, 2, 0, 0, .null, []), (81, .iload_n 2, 1, 0, 0, .null, []), (82, .iadd, 1, 0, 0, .null, []),
  (83, .iaload, 1, 0, 0, .null, []), (84, .aload_n 0, 1, 0, 0, .null, []), (85, .iload 7, 2, 0, 0, .null, []), (87, .iload_n 2, 1, 0, 0, .null, []), (88, .iadd, 1, 0, 0, .null, []), (89, .iaload, 1, 0, 0, .null, []),
  (90, .invokestatic 81, 3, 998, 2, .null, [1002, 0, 366, 66, 367]), (93, .iload_n 3, 1, 0, 0, .null, []), (94, .iconst 1, 1, 0, 0, .null, []), (95, .isub, 1, 0, 0, .null, []), (96, .if_icmp .ne 26, 3, 122, 0, .null, []), (99, .aload_n 0, 1, 0, 0, .null, []),
  (100, .iload 6, 2, 0, 0, .null, []), (102, .iload_n 2, 1, 0, 0, .null, []), (103, .iadd, 1, 0, 0, .null, []), (104, .iaload, 1, 0, 0, .null, []), (105, .aload_n 0, 1, 0, 0, .null, []), (106, .iload 7, 2, 0, 0, .null, []),
  (108, .iload_n 2, 1, 0, 0, .null, []), (109, .iadd, 1, 0, 0, .null, []), (110, .iaload, 1, 0, 0, .null, []), (111, .invokestatic 49, 3, 997, 2, .null, [988, 0, 363, 66, 364]), (114, .iload_n 3, 1, 0, 0, .null, []), (115, .if_icmp .ne 7, 3, 122, 0, .null, []),
  (118, .iconst 1, 1, 0, 0, .null, []), (119, .goto 4, 3, 123, 0, .null, []), (122, .iconst 0, 1, 0, 0, .null, []), (123, .istore 8, 2, 0, 0, .null, []), (125, .iload 4, 2, 0, 0, .null, []), (127, .iload 8, 2, 0, 0, .null, []),
  (129, .ifCond .eq 20, 3, 149, 0, .null, []), (132, .aload_n 0, 1, 0, 0, .null, []), (133, .bipush 30, 2, 0, 0, .null, []), (135, .iload 5, 2, 0, 0, .null, []), (137, .iadd, 1, 0, 0, .null, []), (138, .iaload, 1, 0, 0, .null, []),
  (139, .ifCond .ne 10, 3, 149, 0, .null, []), (142, .iconst 1, 1, 0, 0, .null, []), (143, .iload 5, 2, 0, 0, .null, []), (145, .ishl, 1, 0, 0, .null, []), (146, .goto 4, 3, 150, 0, .null, []), (149, .iconst 0, 1, 0, 0, .null, []),
  (150, .ior, 1, 0, 0, .null, []), (151, .istore 4, 2, 0, 0, .null, []), (153, .iinc 5 1, 3, 0, 0, .null, []), (156, .goto (-128), 3, 28, 0, .null, []), (159, .iload 4, 2, 0, 0, .null, []), (161, .ireturn, 1, 0, 0, .null, [])]
/-- SmallerInTheShopModel one (I)I -/
def mp_154 : List (Nat × mm_I) := [(0, .iload_n 0, 1, 0, 0, .null, []), (1, .iconst 3, 1, 0, 0, .null, []), (2, .if_icmp .ge 7, 3, 9, 0, .null, []), (5, .iload_n 0, 1, 0, 0, .null, []), (6, .goto 19, 3, 25, 0, .null, []), (9, .iload_n 0, 1, 0, 0, .null, []),
  (10, .bipush 6, 2, 0, 0, .null, []), (12, .if_icmp .ge 9, 3, 21, 0, .null, []), (15, .iload_n 0, 1, 0, 0, .null, []), (16, .iconst 1, 1, 0, 0, .null, []), (17, .iadd, 1, 0, 0, .null, []), (18, .goto 7, 3, 25, 0, .null, []),
  (21, .iload_n 0, 1, 0, 0, .null, []), (22, .bipush 6, 2, 0, 0, .null, []), (24, .isub, 1, 0, 0, .null, []), (25, .ireturn, 1, 0, 0, .null, [])]
/-- SmallerInTheShopModel other (I)I -/
def mp_155 : List (Nat × mm_I) := [(0, .iload_n 0, 1, 0, 0, .null, []), (1, .iconst 3, 1, 0, 0, .null, []), (2, .if_icmp .ge 9, 3, 11, 0, .null, []), (5, .iload_n 0, 1, 0, 0, .null, []), (6, .iconst 1, 1, 0, 0, .null, []), (7, .iadd, 1, 0, 0, .null, []),
  (8, .goto 18, 3, 26, 0, .null, []), (11, .iload_n 0, 1, 0, 0, .null, []), (12, .bipush 6, 2, 0, 0, .null, []), (14, .if_icmp .ge 9, 3, 23, 0, .null, []), (17, .iload_n 0, 1, 0, 0, .null, []), (18, .iconst 2, 1, 0, 0, .null, []),
  (19, .iadd, 1, 0, 0, .null, []), (20, .goto 6, 3, 26, 0, .null, []), (23, .iload_n 0, 1, 0, 0, .null, []), (24, .iconst 2, 1, 0, 0, .null, []), (25, .isub, 1, 0, 0, .null, []), (26, .ireturn, 1, 0, 0, .null, [])]
/-- SmallerInTheShopModel effortBy ([III)I -/
def mp_156 : List (Nat × mm_I) := [(0, .aload_n 0, 1, 0, 0, .null, []), (1, .iload_n 1, 1, 0, 0, .null, []), (2, .invokestatic 84, 3, 153, 2, .null, [993, 0, 994, 61]), (5, .istore_n 3, 1, 0, 0, .null, []), (6, .iconst 0, 1, 0, 0, .null, []), (7, .istore 4, 2, 0, 0, .null, []),
  (9, .iconst 0, 1, 0, 0, .null, []), (10, .istore 5, 2, 0, 0, .null, []), (12, .iload 5, 2, 0, 0, .null, []), (14, .bipush 10, 2, 0, 0, .null, []), (16, .if_icmp .ge 41, 3, 57, 0, .null, []), (19, .iload 4, 2, 0, 0, .null, []),
  (21, .iload_n 3, 1, 0, 0, .null, []), (22, .iload 5, 2, 0, 0, .null, []), (24, .ishr, 1, 0, 0, .null, []), (25, .iconst 1, 1, 0, 0, .null, []), (26, .iand, 1, 0, 0, .null, []), (27, .iconst 1, 1, 0, 0, .null, []),
  (28, .if_icmp .ne 19, 3, 47, 0, .null, []), (31, .aload_n 0, 1, 0, 0, .null, []), (32, .iload 5, 2, 0, 0, .null, []), (34, .aload_n 0, 1, 0, 0, .null, []), (35, .iload 5, 2, 0, 0, .null, []), (37, .iload_n 2, 1, 0, 0, .null, []),
  (38, .invokestatic 87, 3, 157, 3, .null, [1006, 0, 1007, 61]), (41, .invokestatic 91, 3, 158, 3, .null, [1009, 0, 1010, 61]), (44, .goto 4, 3, 48, 0, .null, []), (47, .iconst 0, 1, 0, 0, .null, []), (48, .iadd, 1, 0, 0, .null, []), (49, .istore 4, 2, 0, 0, .null, []),
  (51, .iinc 5 1, 3, 0, 0, .null, []), (54, .goto (-42), 3, 12, 0, .null, []), (57, .iload 4, 2, 0, 0, .null, []), (59, .ireturn, 1, 0, 0, .null, [])]
/-- SmallerInTheShopModel sideOf ([III)I -/
def mp_157 : List (Nat × mm_I) := [(0, .aload_n 0, 1, 0, 0, .null, []), (1, .bipush 40, 2, 0, 0, .null, []), (3, .iconst 4, 1, 0, 0, .null, []), (4, .iload_n 1, 1, 0, 0, .null, []), (5, .invokestatic 75, 3, 154, 1, .null, [996, 0, 997, 61]), (8, .imul, 1, 0, 0, .null, []),
  (9, .iadd, 1, 0, 0, .null, []), (10, .iconst 3, 1, 0, 0, .null, []), (11, .iadd, 1, 0, 0, .null, []), (12, .iaload, 1, 0, 0, .null, []), (13, .ifCond .ne 7, 3, 20, 0, .null, []), (16, .iconst 1, 1, 0, 0, .null, []),
  (17, .goto 4, 3, 21, 0, .null, []), (20, .iconst 0, 1, 0, 0, .null, []), (21, .istore_n 3, 1, 0, 0, .null, []), (22, .iload_n 3, 1, 0, 0, .null, []), (23, .iload_n 2, 1, 0, 0, .null, []), (24, .iconst 2, 1, 0, 0, .null, []),
  (25, .irem, 1, 0, 0, .null, []), (26, .ifCond .ne 7, 3, 33, 0, .null, []), (29, .iconst 1, 1, 0, 0, .null, []), (30, .goto 4, 3, 34, 0, .null, []), (33, .iconst 0, 1, 0, 0, .null, []), (34, .if_icmp .ne 7, 3, 41, 0, .null, []),
  (37, .iconst 2, 1, 0, 0, .null, []), (38, .goto 4, 3, 42, 0, .null, []), (41, .iconst 1, 1, 0, 0, .null, []), (42, .ireturn, 1, 0, 0, .null, [])]
/-- SmallerInTheShopModel effortOf ([III)I -/
def mp_158 : List (Nat × mm_I) := [(0, .aload_n 0, 1, 0, 0, .null, []), (1, .iconst 0, 1, 0, 0, .null, []), (2, .iload_n 1, 1, 0, 0, .null, []), (3, .iadd, 1, 0, 0, .null, []), (4, .iaload, 1, 0, 0, .null, []), (5, .aload_n 0, 1, 0, 0, .null, []),
  (6, .bipush 10, 2, 0, 0, .null, []), (8, .iload_n 1, 1, 0, 0, .null, []), (9, .iadd, 1, 0, 0, .null, []), (10, .iaload, 1, 0, 0, .null, []), (11, .aload_n 0, 1, 0, 0, .null, []), (12, .bipush 20, 2, 0, 0, .null, []),
  (14, .iload_n 1, 1, 0, 0, .null, []), (15, .iadd, 1, 0, 0, .null, []), (16, .iaload, 1, 0, 0, .null, []), (17, .iload_n 2, 1, 0, 0, .null, []), (18, .invokestatic 45, 3, 159, 4, .null, [1012, 0, 1013, 61]), (21, .ireturn, 1, 0, 0, .null, [])]
/-- SmallerInTheShopModel effort (IIII)I -/
def mp_159 : List (Nat × mm_I) := [(0, .iload_n 0, 1, 0, 0, .null, []), (1, .iconst 3, 1, 0, 0, .null, []), (2, .if_icmp .ne 15, 3, 17, 0, .null, []), (5, .iload_n 2, 1, 0, 0, .null, []), (6, .bipush 10, 2, 0, 0, .null, []), (8, .if_icmp .lt 9, 3, 17, 0, .null, []),
  (11, .iconst 3, 1, 0, 0, .null, []), (12, .iload_n 3, 1, 0, 0, .null, []), (13, .isub, 1, 0, 0, .null, []), (14, .goto 4, 3, 18, 0, .null, []), (17, .iload_n 3, 1, 0, 0, .null, []), (18, .istore 4, 2, 0, 0, .null, []),
  (20, .iload_n 0, 1, 0, 0, .null, []), (21, .tableswitch 80 1 5 #[35, 49, 35, 62, 65], 35, 0, 0, .null, []), (56, .iload 4, 2, 0, 0, .null, []), (58, .iconst 2, 1, 0, 0, .null, []), (59, .if_icmp .ne 9, 3, 68, 0, .null, []), (62, .iconst 3, 1, 0, 0, .null, []),
  (63, .iload_n 1, 1, 0, 0, .null, []), (64, .iadd, 1, 0, 0, .null, []), (65, .goto 4, 3, 69, 0, .null, []), (68, .iconst 3, 1, 0, 0, .null, []), (69, .ireturn, 1, 0, 0, .null, []), (70, .iload_n 3, 1, 0, 0, .null, []),
  (71, .iconst 1, 1, 0, 0, .null, []), (72, .if_icmp .ne 9, 3, 81, 0, .null, []), (75, .iconst 3, 1, 0, 0, .null, []), (76, .iload_n 1, 1, 0, 0, .null, []), (77, .iadd, 1, 0, 0, .null, []), (78, .goto 4, 3, 82, 0, .null, []),
  (81, .iconst 3, 1, 0, 0, .null, []), (82, .ireturn, 1, 0, 0, .null, []), (83, .bipush 7, 2, 0, 0, .null, []), (85, .ireturn, 1, 0, 0, .null, []), (86, .iload_n 3, 1, 0, 0, .null, []), (87, .iconst 1, 1, 0, 0, .null, []),
  (88, .if_icmp .ne 9, 3, 97, 0, .null, []), (91, .iconst 3, 1, 0, 0, .null, []), (92, .iload_n 1, 1, 0, 0, .null, []), (93, .iadd, 1, 0, 0, .null, []), (94, .goto 4, 3, 98, 0, .null, []), (97, .iconst 3, 1, 0, 0, .null, []),
  (98, .iconst 2, 1, 0, 0, .null, []), (99, .idiv, 1, 0, 0, .null, []), (100, .ireturn, 1, 0, 0, .null, []), (101, .iconst 3, 1, 0, 0, .null, []), (102, .ireturn, 1, 0, 0, .null, [])]
/-- SmallerInTheShopModel keepsAhead ([II)V -/
def mp_160 : List (Nat × mm_I) := [(0, .bipush 74, 2, 0, 0, .null, []), (2, .bipush 33, 2, 0, 0, .null, []), (4, .aload_n 0, 1, 0, 0, .null, []), (5, .bipush 73, 2, 0, 0, .null, []), (7, .iaload, 1, 0, 0, .null, []), (8, .imul, 1, 0, 0, .null, []),
  (9, .iadd, 1, 0, 0, .null, []), (10, .istore_n 2, 1, 0, 0, .null, []), (11, .iconst 0, 1, 0, 0, .null, []), (12, .istore_n 3, 1, 0, 0, .null, []), (13, .iload_n 3, 1, 0, 0, .null, []), (14, .bipush 32, 2, 0, 0, .null, []),
  (16, .if_icmp .ge 20, 3, 36, 0, .null, []), (19, .aload_n 0, 1, 0, 0, .null, []), (20, .iload_n 2, 1, 0, 0, .null, []), (21, .iload_n 3, 1, 0, 0, .null, []), (22, .iadd, 1, 0, 0, .null, []), (23, .aload_n 0, 1, 0, 0, .null, []),
  (24, .bipush 40, 2, 0, 0, .null, []), (26, .iload_n 3, 1, 0, 0, .null, []), (27, .iadd, 1, 0, 0, .null, []), (28, .iaload, 1, 0, 0, .null, []), (29, .iastore, 1, 0, 0, .null, []), (30, .iinc 3 1, 3, 0, 0, .null, []),
  (33, .goto (-20), 3, 13, 0, .null, []), (36, .aload_n 0, 1, 0, 0, .null, []), (37, .iload_n 2, 1, 0, 0, .null, []), (38, .bipush 32, 2, 0, 0, .null, []), (40, .iadd, 1, 0, 0, .null, []), (41, .iload_n 1, 1, 0, 0, .null, []),
  (42, .iastore, 1, 0, 0, .null, []), (43, .aload_n 0, 1, 0, 0, .null, []), (44, .bipush 73, 2, 0, 0, .null, []), (46, .dup2, 1, 0, 0, .null, []), (47, .iaload, 1, 0, 0, .null, []), (48, .iconst 1, 1, 0, 0, .null, []),
  (49, .iadd, 1, 0, 0, .null, []), (50, .iastore, 1, 0, 0, .null, []), (51, .return_, 1, 0, 0, .null, [])]
/-- SmallerInTheShopModel wear (III)I -/
def mp_161 : List (Nat × mm_I) := [(0, .iload_n 0, 1, 0, 0, .null, []), (1, .iconst 3, 1, 0, 0, .null, []), (2, .if_icmp .ne 15, 3, 17, 0, .null, []), (5, .iload_n 1, 1, 0, 0, .null, []), (6, .bipush 10, 2, 0, 0, .null, []), (8, .if_icmp .lt 9, 3, 17, 0, .null, []),
  (11, .iconst 3, 1, 0, 0, .null, []), (12, .iload_n 2, 1, 0, 0, .null, []), (13, .isub, 1, 0, 0, .null, []), (14, .goto 4, 3, 18, 0, .null, []), (17, .iload_n 2, 1, 0, 0, .null, []), (18, .istore_n 3, 1, 0, 0, .null, []),
  (19, .iload_n 0, 1, 0, 0, .null, []), (20, .tableswitch 71 1 5 #[36, 47, 36, 58, 60], 36, 0, 0, .null, []), (56, .iload_n 3, 1, 0, 0, .null, []), (57, .iconst 2, 1, 0, 0, .null, []), (58, .if_icmp .ne 7, 3, 65, 0, .null, []), (61, .iconst 2, 1, 0, 0, .null, []),
  (62, .goto 4, 3, 66, 0, .null, []), (65, .iconst 1, 1, 0, 0, .null, []), (66, .ireturn, 1, 0, 0, .null, []), (67, .iload_n 2, 1, 0, 0, .null, []), (68, .iconst 1, 1, 0, 0, .null, []), (69, .if_icmp .ne 7, 3, 76, 0, .null, []),
  (72, .iconst 2, 1, 0, 0, .null, []), (73, .goto 4, 3, 77, 0, .null, []), (76, .iconst 1, 1, 0, 0, .null, []), (77, .ireturn, 1, 0, 0, .null, []), (78, .iconst 0, 1, 0, 0, .null, []), (79, .ireturn, 1, 0, 0, .null, []),
  (80, .iload_n 2, 1, 0, 0, .null, []), (81, .iconst 1, 1, 0, 0, .null, []), (82, .if_icmp .ne 7, 3, 89, 0, .null, []), (85, .iconst 3, 1, 0, 0, .null, []), (86, .goto 4, 3, 90, 0, .null, []), (89, .iconst 2, 1, 0, 0, .null, []),
  (90, .ireturn, 1, 0, 0, .null, []), (91, .iconst 1, 1, 0, 0, .null, []), (92, .ireturn, 1, 0, 0, .null, [])]
/-- SmallerInTheShopModel lays ([III)V -/
def mp_162 : List (Nat × mm_I) := [(0, .iload_n 2, 1, 0, 0, .null, []), (1, .iconst 4, 1, 0, 0, .null, []), (2, .if_icmp .ne 7, 3, 9, 0, .null, []), (5, .iconst 1, 1, 0, 0, .null, []), (6, .goto 4, 3, 10, 0, .null, []), (9, .iconst 0, 1, 0, 0, .null, []),
  (10, .istore 4, 2, 0, 0, .null, []), (12, .iload_n 2, 1, 0, 0, .null, []), (13, .iconst 4, 1, 0, 0, .null, []), (14, .if_icmp .ne 7, 3, 21, 0, .null, []), (17, .iconst 1, 1, 0, 0, .null, []), (18, .goto 4, 3, 22, 0, .null, []),
  (21, .iload_n 2, 1, 0, 0, .null, []), (22, .istore 5, 2, 0, 0, .null, []), (24, .iload_n 3, 1, 0, 0, .null, []), (25, .iconst 1, 1, 0, 0, .null, []), (26, .if_icmp .le 7, 3, 33, 0, .null, []), (29, .iconst 1, 1, 0, 0, .null, []),
  (30, .goto 4, 3, 34, 0, .null, []), (33, .iconst 0, 1, 0, 0, .null, []), (34, .istore 6, 2, 0, 0, .null, []), (36, .iload_n 3, 1, 0, 0, .null, []), (37, .iconst 2, 1, 0, 0, .null, []), (38, .irem, 1, 0, 0, .null, []),
  (39, .ifCond .ne 7, 3, 46, 0, .null, []), (42, .iconst 1, 1, 0, 0, .null, []), (43, .goto 4, 3, 47, 0, .null, []), (46, .iconst 0, 1, 0, 0, .null, []), (47, .istore 7, 2, 0, 0, .null, []), (49, .iconst 0, 1, 0, 0, .null, []),
  (50, .istore 8, 2, 0, 0, .null, []), (52, .iload 8, 2, 0, 0, .null, []), (54, .bipush 32, 2, 0, 0, .null, []), (56, .if_icmp .ge 23, 3, 79, 0, .null, []), (59, .aload_n 0, 1, 0, 0, .null, []), (60, .getfield 30, 3, 6, 9, .null, [892, 0]),
  (63, .iload 8, 2, 0, 0, .null, []), (65, .aload_n 1, 1, 0, 0, .null, []), (66, .bipush 40, 2, 0, 0, .null, []), (68, .iload 8, 2, 0, 0, .null, []), (70, .iadd, 1, 0, 0, .null, []), (71, .iaload, 1, 0, 0, .null, []),
  (72, .iastore, 1, 0, 0, .null, []), (73, .iinc 8 1, 3, 0, 0, .null, []), (76, .goto (-24), 3, 52, 0, .null, []), (79, .iconst 0, 1, 0, 0, .null, []), (80, .istore 8, 2, 0, 0, .null, []), (82, .iload 8, 2, 0, 0, .null, []),
  (84, .bipush 8, 2, 0, 0, .null, []), (86, .if_icmp .ge 91, 3, 177, 0, .null, []), (89, .aload_n 0, 1, 0, 0, .null, []), (90, .getfield 30, 3, 6, 9, .null, [892, 0]), (93, .iconst 4, 1, 0, 0, .null, []), (94, .iload 8, 2, 0, 0, .null, []),
  (96, .imul, 1, 0, 0, .null, []), (97, .iload 4, 2, 0, 0, .null, []), (99, .iadd, 1, 0, 0, .null, []), (100, .iaload, 1, 0, 0, .null, []), (101, .iload 5, 2, 0, 0, .null, []), (103, .if_icmp .lt 7, 3, 110, 0, .null, []),
  (106, .iconst 1, 1, 0, 0, .null, []), (107, .goto 4, 3, 111, 0, .null, []), (110, .iconst 0, 1, 0, 0, .null, []), (111, .iload 6, 2, 0, 0, .null, []), (113, .if_icmp .ne 58, 3, 171, 0, .null, []), (116, .aload_n 1, 1, 0, 0, .null, []),
  (117, .bipush 40, 2, 0, 0, .null, []), (119, .iconst 4, 1, 0, 0, .null, []), (120, .iload 8, 2, 0, 0, .null, []), (122, .imul, 1, 0, 0, .null, []), (123, .iadd, 1, 0, 0, .null, []), (124, .iload 4, 2, 0, 0, .null, []),
  (126, .iadd, 1, 0, 0, .null, []), (127, .iconst 2, 1, 0, 0, .null, []), (128, .iload 5, 2, 0, 0, .null, []), (130, .imul, 1, 0, 0, .null, []), (131, .iconst 1, 1, 0, 0, .null, []), (132, .isub, 1, 0, 0, .null, []),
  (133, .aload_n 0, 1, 0, 0, .null, []), (134, .getfield 30, 3, 6, 9, .null, [892, 0]), (137, .iconst 4, 1, 0, 0, .null, []), (138, .iload 8, 2, 0, 0, .null, []), (140, .imul, 1, 0, 0, .null, []), (141, .iload 4, 2, 0, 0, .null, []),
  (143, .iadd, 1, 0, 0, .null, []), (144, .iaload, 1, 0, 0, .null, []), (145, .isub, 1, 0, 0, .null, []), (146, .iastore, 1, 0, 0, .null, []), (147, .aload_n 1, 1, 0, 0, .null, []), (148, .bipush 40, 2, 0, 0, .null, []),
  (150, .iconst 4, 1, 0, 0, .null, []), (151, .iload 8, 2, 0, 0, .null, []), (153, .imul, 1, 0, 0, .null, []), (154, .iadd, 1, 0, 0, .null, []), (155, .iconst 3, 1, 0, 0, .null, []), (156, .iadd, 1, 0, 0, .null, []),
  (157, .iconst 1, 1, 0, 0, .null, []), (158, .aload_n 0, 1, 0, 0, .null, []), (159, .getfield 30, 3, 6, 9, .null, [892, 0]), (162, .iconst 4, 1, 0, 0, .null, []), (163, .iload 8, 2, 0, 0, .null, []), (165, .imul, 1, 0, 0, .null, []),
  (166, .iconst 3, 1, 0, 0, .null, []), (167, .iadd, 1, 0, 0, .null, []), (168, .iaload, 1, 0, 0, .null, []), (169, .isub, 1, 0, 0, .null, []), (170, .iastore, 1, 0, 0, .null, []), (171, .iinc 8 1, 3, 0, 0, .null, []),
  (174, .goto (-92), 3, 82, 0, .null, []), (177, .iconst 0, 1, 0, 0, .null, []), (178, .istore 8, 2, 0, 0, .null, []), (180, .iload 8, 2, 0, 0, .null, []), (182, .bipush 8, 2, 0, 0, .null, []), (184, .if_icmp .ge 206, 3, 390, 0, .null, []),
  (187, .aload_n 0, 1, 0, 0, .null, []), (188, .getfield 30, 3, 6, 9, .null, [892, 0]), (191, .iconst 4, 1, 0, 0, .null, []), (192, .iload 8, 2, 0, 0, .null, []), (194, .imul, 1, 0, 0, .null, []), (195, .iload 4, 2, 0, 0, .null, []),
  (197, .iadd, 1, 0, 0, .null, []), (198, .iaload, 1, 0, 0, .null, []), (199, .iload 5, 2, 0, 0, .null, []), (201, .if_icmp .lt 7, 3, 208, 0, .null, []), (204, .iconst 1, 1, 0, 0, .null, []), (205, .goto 4, 3, 209, 0, .null, []),
  (208, .iconst 0, 1, 0, 0, .null, []), (209, .iload 6, 2, 0, 0, .null, []), (211, .if_icmp .ne 7, 3, 218, 0, .null, []), (214, .iconst 1, 1, 0, 0, .null, []), (215, .goto 4, 3, 219, 0, .null, []), (218, .iconst 0, 1, 0, 0, .null, []),
  (219, .istore 9, 2, 0, 0, .null, []), (221, .iconst 0, 1, 0, 0, .null, []), (222, .istore 10, 2, 0, 0, .null, []), (224, .iconst 0, 1, 0, 0, .null, []), (225, .istore 11, 2, 0, 0, .null, []), (227, .iload 11, 2, 0, 0, .null, []),
  (229, .bipush 8, 2, 0, 0, .null, []), (231, .if_icmp .ge 140, 3, 371, 0, .null, []), (234, .aload_n 0, 1, 0, 0, .null, []), (235, .getfield 30, 3, 6, 9, .null, [892, 0]), (238, .iconst 4, 1, 0, 0, .null, []), (239, .iload 11, 2, 0, 0, .null, []),
  (241, .imul, 1, 0, 0, .null, []), (242, .iload 4, 2, 0, 0, .null, []), (244, .iadd, 1, 0, 0, .null, []), (245, .iaload, 1, 0, 0, .null, []), (246, .iload 5, 2, 0, 0, .null, []), (248, .if_icmp .lt 7, 3, 255, 0, .null, []),
  (251, .iconst 1, 1, 0, 0, .null, []), (252, .goto 4, 3, 256, 0, .null, []), (255, .iconst 0, 1, 0, 0, .null, []), (256, .iload 6, 2, 0, 0, .null, []), (258, .if_icmp .ne 7, 3, 265, 0, .null, []), (261, .iconst 1, 1, 0, 0, .null, []),
  (262, .goto 4, 3, 266, 0, .null, []), (265, .iconst 0, 1, 0, 0, .null, []), (266, .istore 12, 2, 0, 0, .null, []), (268, .iload 9, 2, 0, 0, .null, []), (270, .iload 12, 2, 0, 0, .null, []), (272, .if_icmp .ne 46, 3, 318, 0, .null, []),
  (275, .iload 9, 2, 0, 0, .null, []), (277, .aload_n 0, 1, 0, 0, .null, []), (278, .getfield 30, 3, 6, 9, .null, [892, 0]), (281, .iconst 4, 1, 0, 0, .null, []), (282, .iload 11, 2, 0, 0, .null, []), (284, .imul, 1, 0, 0, .null, []),
  (285, .iconst 2, 1, 0, 0, .null, []), (286, .iadd, 1, 0, 0, .null, []), (287, .iaload, 1, 0, 0, .null, []), (288, .aload_n 0, 1, 0, 0, .null, []), (289, .getfield 30, 3, 6, 9, .null, [892, 0]), (292, .iconst 4, 1, 0, 0, .null, []),
  (293, .iload 8, 2, 0, 0, .null, []), (295, .imul, 1, 0, 0, .null, []), (296, .iconst 2, 1, 0, 0, .null, []), (297, .iadd, 1, 0, 0, .null, []), (298, .iaload, 1, 0, 0, .null, []), (299, .if_icmp .ge 7, 3, 306, 0, .null, []),
  (302, .iconst 1, 1, 0, 0, .null, []), (303, .goto 4, 3, 307, 0, .null, []), (306, .iconst 0, 1, 0, 0, .null, []), (307, .if_icmp .eq 7, 3, 314, 0, .null, []), (310, .iconst 1, 1, 0, 0, .null, []), (311, .goto 19, 3, 330, 0, .null, []),
  (314, .iconst 0, 1, 0, 0, .null, []), (315, .goto 15, 3, 330, 0, .null, []), (318, .iload 9, 2, 0, 0, .null, []), (320, .iload 7, 2, 0, 0, .null, []), (322, .if_icmp .ne 7, 3, 329, 0, .null, []), (325, .iconst 1, 1, 0, 0, .null, []),
  (326, .goto 4, 3, 330, 0, .null, []), (329, .iconst 0, 1, 0, 0, .null, []), (330, .istore 13, 2, 0, 0, .null, []), (332, .iload 10, 2, 0, 0, .null, []), (334, .iload 11, 2, 0, 0, .null, []), (336, .iload 8, 2, 0, 0, .null, []),
  (338, .if_icmp .eq 23, 3, 361, 0, .null, []), (341, .aload_n 1, 1, 0, 0, .null, []), (342, .iload 8, 2, 0, 0, .null, []), (344, .iload 11, 2, 0, 0, .null, []), (346, .invokestatic 65, 3, 163, 3, .null, [1025, 0, 1026, 61]), (349, .ifCond .eq 12, 3, 361, 0, .null, []),
  (352, .iload 13, 2, 0, 0, .null, []), (354, .ifCond .eq 7, 3, 361, 0, .null, []), (357, .iconst 1, 1, 0, 0, .null, []), (358, .goto 4, 3, 362, 0, .null, []), (361, .iconst 0, 1, 0, 0, .null, []), (362, .iadd, 1, 0, 0, .null, []),
  (363, .istore 10, 2, 0, 0, .null, []), (365, .iinc 11 1, 3, 0, 0, .null, []), (368, .goto (-141), 3, 227, 0, .null, []), (371, .aload_n 1, 1, 0, 0, .null, []), (372, .bipush 40, 2, 0, 0, .null, []), (374, .iconst 4, 1, 0, 0, .null, []),
  (375, .iload 8, 2, 0, 0, .null, []), (377, .imul, 1, 0, 0, .null, []), (378, .iadd, 1, 0, 0, .null, []), (379, .iconst 2, 1, 0, 0, .null, []), (380, .iadd, 1, 0, 0, .null, []), (381, .iload 10, 2, 0, 0, .null, []),
  (383, .iastore, 1, 0, 0, .null, []), (384, .iinc 8 1, 3, 0, 0, .null, []), (387, .goto (-207), 3, 180, 0, .null, []), (390, .bipush 9, 2, 0, 0, .null, []), (392, .istore 8, 2, 0, 0, .null, []), (394, .iconst 0, 1, 0, 0, .null, []),
  (395, .istore 9, 2, 0, 0, .null, []), (397, .iload 9, 2, 0, 0, .null, []), (399, .bipush 8, 2, 0, 0, .null, []), (401, .if_icmp .ge 28, 3, 429, 0, .null, []), (404, .iload 8, 2, 0, 0, .null, []), (406, .aload_n 1, 1, 0, 0, .null, []),
  (407, .bipush 40, 2, 0, 0, .null, []), (409, .iconst 4, 1, 0, 0, .null, []), (410, .iload 9, 2, 0, 0, .null, []), (412, .imul, 1, 0, 0, .null, []), (413, .iadd, 1, 0, 0, .null, []), (414, .iload 4, 2, 0, 0, .null, []),
  (416, .iadd, 1, 0, 0, .null, []), (417, .iaload, 1, 0, 0, .null, []), (418, .invokestatic 81, 3, 998, 2, .null, [1002, 0, 366, 66, 367]), (421, .istore 8, 2, 0, 0, .null, []), (423, .iinc 9 1, 3, 0, 0, .null, []), (426, .goto (-29), 3, 397, 0, .null, []),
  (429, .iconst 0, 1, 0, 0, .null, []), (430, .istore 9, 2, 0, 0, .null, []), (432, .iload 9, 2, 0, 0, .null, []), (434, .bipush 8, 2, 0, 0, .null, []), (436, .if_icmp .ge 26, 3, 462, 0, .null, []), (439, .aload_n 1, 1, 0, 0, .null, []),
  (440, .bipush 40, 2, 0, 0, .null, []), (442, .iconst 4, 1, 0, 0, .null, []), (443, .iload 9, 2, 0, 0, .null, []), (445, .imul, 1, 0, 0, .null, []), (446, .iadd, 1, 0, 0, .null, []), (447, .iload 4, 2, 0, 0, .null, []),
  (449, .iadd, 1, 0, 0, .null, []), (450, .dup2, 1, 0, 0, .null, []), (451, .iaload, 1, 0, 0, .null, []), (452, .iload 8, 2, 0, 0, .null, []), (454, .isub, 1, 0, 0, .null, []), (455, .iastore, 1, 0, 0, .null, []),
  (456, .iinc 9 1, 3, 0, 0, .null, []), (459, .goto (-27), 3, 432, 0, .null, []), (462, .return_, 1, 0, 0, .null, [])]
/-- SmallerInTheShopModel isOneCell ([III)Z -/
def mp_163 : List (Nat × mm_I) := [(0, .aload_n 0, 1, 0, 0, .null, []), (1, .bipush 40, 2, 0, 0, .null, []), (3, .iconst 4, 1, 0, 0, .null, []), (4, .iload_n 1, 1, 0, 0, .null, []), (5, .imul, 1, 0, 0, .null, []), (6, .iadd, 1, 0, 0, .null, []),
  (7, .iaload, 1, 0, 0, .null, []), (8, .aload_n 0, 1, 0, 0, .null, []), (9, .bipush 40, 2, 0, 0, .null, []), (11, .iconst 4, 1, 0, 0, .null, []), (12, .iload_n 2, 1, 0, 0, .null, []), (13, .imul, 1, 0, 0, .null, []),
  (14, .iadd, 1, 0, 0, .null, []), (15, .iaload, 1, 0, 0, .null, []), (16, .if_icmp .ne 30, 3, 46, 0, .null, []), (19, .aload_n 0, 1, 0, 0, .null, []), (20, .bipush 40, 2, 0, 0, .null, []), (22, .iconst 4, 1, 0, 0, .null, []),
  (23, .iload_n 1, 1, 0, 0, .null, []), (24, .imul, 1, 0, 0, .null, []), (25, .iadd, 1, 0, 0, .null, []), (26, .iconst 1, 1, 0, 0, .null, []), (27, .iadd, 1, 0, 0, .null, []), (28, .iaload, 1, 0, 0, .null, []),
  (29, .aload_n 0, 1, 0, 0, .null, []), (30, .bipush 40, 2, 0, 0, .null, []), (32, .iconst 4, 1, 0, 0, .null, []), (33, .iload_n 2, 1, 0, 0, .null, []), (34, .imul, 1, 0, 0, .null, []), (35, .iadd, 1, 0, 0, .null, []),
  (36, .iconst 1, 1, 0, 0, .null, []), (37, .iadd, 1, 0, 0, .null, []), (38, .iaload, 1, 0, 0, .null, []), (39, .if_icmp .ne 7, 3, 46, 0, .null, []), (42, .iconst 1, 1, 0, 0, .null, []), (43, .goto 4, 3, 47, 0, .null, []),
  (46, .iconst 0, 1, 0, 0, .null, []), (47, .ireturn, 1, 0, 0, .null, [])]
/-- SmallerInTheShopModel opened ([I)V -/
def mp_164 : List (Nat × mm_I) := [(0, .aload_n 0, 1, 0, 0, .null, []), (1, .bipush 73, 2, 0, 0, .null, []), (3, .dup2, 1, 0, 0, .null, []), (4, .iaload, 1, 0, 0, .null, []), (5, .iconst 1, 1, 0, 0, .null, []), (6, .isub, 1, 0, 0, .null, []),
  (7, .iastore, 1, 0, 0, .null, []), (8, .bipush 74, 2, 0, 0, .null, []), (10, .bipush 33, 2, 0, 0, .null, []), (12, .aload_n 0, 1, 0, 0, .null, []), (13, .bipush 73, 2, 0, 0, .null, []), (15, .iaload, 1, 0, 0, .null, []),
  (16, .imul, 1, 0, 0, .null, []), (17, .iadd, 1, 0, 0, .null, []), (18, .istore_n 1, 1, 0, 0, .null, []), (19, .iconst 0, 1, 0, 0, .null, []), (20, .istore_n 2, 1, 0, 0, .null, []), (21, .iload_n 2, 1, 0, 0, .null, []),
  (22, .bipush 32, 2, 0, 0, .null, []), (24, .if_icmp .ge 20, 3, 44, 0, .null, []), (27, .aload_n 0, 1, 0, 0, .null, []), (28, .bipush 40, 2, 0, 0, .null, []), (30, .iload_n 2, 1, 0, 0, .null, []), (31, .iadd, 1, 0, 0, .null, []),
  (32, .aload_n 0, 1, 0, 0, .null, []), (33, .iload_n 1, 1, 0, 0, .null, []), (34, .iload_n 2, 1, 0, 0, .null, []), (35, .iadd, 1, 0, 0, .null, []), (36, .iaload, 1, 0, 0, .null, []), (37, .iastore, 1, 0, 0, .null, []),
  (38, .iinc 2 1, 3, 0, 0, .null, []), (41, .goto (-20), 3, 21, 0, .null, []), (44, .iconst 0, 1, 0, 0, .null, []), (45, .istore_n 2, 1, 0, 0, .null, []), (46, .iload_n 2, 1, 0, 0, .null, []), (47, .bipush 10, 2, 0, 0, .null, []),
  (49, .if_icmp .ge 39, 3, 88, 0, .null, []), (52, .aload_n 0, 1, 0, 0, .null, []), (53, .bipush 30, 2, 0, 0, .null, []), (55, .iload_n 2, 1, 0, 0, .null, []), (56, .iadd, 1, 0, 0, .null, []), (57, .aload_n 0, 1, 0, 0, .null, []),
  (58, .iload_n 1, 1, 0, 0, .null, []), (59, .bipush 32, 2, 0, 0, .null, []), (61, .iadd, 1, 0, 0, .null, []), (62, .iaload, 1, 0, 0, .null, []), (63, .iload_n 2, 1, 0, 0, .null, []), (64, .ishr, 1, 0, 0, .null, []),
  (65, .iconst 1, 1, 0, 0, .null, []), (66, .iand, 1, 0, 0, .null, []), (67, .iconst 1, 1, 0, 0, .null, []), (68, .if_icmp .ne 7, 3, 75, 0, .null, []), (71, .iconst 0, 1, 0, 0, .null, []), (72, .goto 9, 3, 81, 0, .null, []),
  (75, .aload_n 0, 1, 0, 0, .null, []), (76, .bipush 30, 2, 0, 0, .null, []), (78, .iload_n 2, 1, 0, 0, .null, []), (79, .iadd, 1, 0, 0, .null, []), (80, .iaload, 1, 0, 0, .null, []), (81, .iastore, 1, 0, 0, .null, []),
  (82, .iinc 2 1, 3, 0, 0, .null, []), (85, .goto (-39), 3, 46, 0, .null, []), (88, .return_, 1, 0, 0, .null, [])]
/-- SmallerInTheShopModel crease (II)I -/
def mp_165 : List (Nat × mm_I) := [(0, .iload_n 1, 1, 0, 0, .null, []), (1, .invokestatic 157, 3, 166, 1, .null, [1035, 0, 1036, 61]), (4, .ifCond .ne 9, 3, 13, 0, .null, []), (7, .aload_n 0, 1, 0, 0, .null, []), (8, .iconst (-1), 1, 0, 0, .null, []), (9, .invokevirtual 41, 3, 141, 2, .null, [945, 0, 947, 61, 33]),
  (12, .ireturn, 1, 0, 0, .null, []), (13, .iload_n 2, 1, 0, 0, .null, []), (14, .i2l, 1, 0, 0, .null, []), (15, .lconst 0, 1, 0, 0, .null, []), (16, .ldc2_w 161, 3, 0, 0, .long (5), [1039]), (19, .invokestatic 57, 3, 146, 3, .null, [967, 0, 968, 61]),
  (22, .ifCond .ne 10, 3, 32, 0, .null, []), (25, .aload_n 0, 1, 0, 0, .null, []), (26, .bipush (-2), 2, 0, 0, .null, []), (28, .invokevirtual 41, 3, 141, 2, .null, [945, 0, 947, 61, 33]), (31, .ireturn, 1, 0, 0, .null, []), (32, .iload_n 2, 1, 0, 0, .null, []),
  (33, .iconst 4, 1, 0, 0, .null, []), (34, .if_icmp .ge 17, 3, 51, 0, .null, []), (37, .aload_n 0, 1, 0, 0, .null, []), (38, .getfield 9, 3, 6, 0, .null, [883, 0]), (41, .bipush 10, 2, 0, 0, .null, []), (43, .iload_n 2, 1, 0, 0, .null, []),
  (44, .imul, 1, 0, 0, .null, []), (45, .iload_n 1, 1, 0, 0, .null, []), (46, .iadd, 1, 0, 0, .null, []), (47, .iaload, 1, 0, 0, .null, []), (48, .goto 14, 3, 62, 0, .null, []), (51, .aload_n 0, 1, 0, 0, .null, []),
  (52, .getfield 9, 3, 6, 0, .null, [883, 0]), (55, .iload_n 1, 1, 0, 0, .null, []), (56, .iload_n 2, 1, 0, 0, .null, []), (57, .iconst 3, 1, 0, 0, .null, []), (58, .isub, 1, 0, 0, .null, []), (59, .invokestatic 91, 3, 158, 3, .null, [1009, 0, 1010, 61]),
  (62, .ireturn, 1, 0, 0, .null, [])]
/-- SmallerInTheShopModel isCrease (I)Z -/
def mp_166 : List (Nat × mm_I) := [(0, .iload_n 0, 1, 0, 0, .null, []), (1, .i2l, 1, 0, 0, .null, []), (2, .lconst 0, 1, 0, 0, .null, []), (3, .ldc2_w 153, 3, 0, 0, .long (9), [1038]), (6, .invokestatic 57, 3, 146, 3, .null, [967, 0, 968, 61]), (9, .ireturn, 1, 0, 0, .null, [])]
/-- SmallerInTheShopModel panel (II)I -/
def mp_167 : List (Nat × mm_I) := [(0, .iload_n 1, 1, 0, 0, .null, []), (1, .invokestatic 163, 3, 168, 1, .null, [1044, 0, 1045, 61]), (4, .ifCond .ne 9, 3, 13, 0, .null, []), (7, .aload_n 0, 1, 0, 0, .null, []), (8, .iconst (-1), 1, 0, 0, .null, []), (9, .invokevirtual 41, 3, 141, 2, .null, [945, 0, 947, 61, 33]),
  (12, .ireturn, 1, 0, 0, .null, []), (13, .iload_n 2, 1, 0, 0, .null, []), (14, .i2l, 1, 0, 0, .null, []), (15, .lconst 0, 1, 0, 0, .null, []), (16, .ldc2_w 161, 3, 0, 0, .long (5), [1039]), (19, .invokestatic 57, 3, 146, 3, .null, [967, 0, 968, 61]),
  (22, .ifCond .ne 10, 3, 32, 0, .null, []), (25, .aload_n 0, 1, 0, 0, .null, []), (26, .bipush (-2), 2, 0, 0, .null, []), (28, .invokevirtual 41, 3, 141, 2, .null, [945, 0, 947, 61, 33]), (31, .ireturn, 1, 0, 0, .null, []), (32, .iload_n 2, 1, 0, 0, .null, []),
  (33, .iconst 4, 1, 0, 0, .null, []), (34, .if_icmp .ge 19, 3, 53, 0, .null, []), (37, .aload_n 0, 1, 0, 0, .null, []), (38, .getfield 9, 3, 6, 0, .null, [883, 0]), (41, .bipush 40, 2, 0, 0, .null, []), (43, .iconst 4, 1, 0, 0, .null, []),
  (44, .iload_n 1, 1, 0, 0, .null, []), (45, .imul, 1, 0, 0, .null, []), (46, .iadd, 1, 0, 0, .null, []), (47, .iload_n 2, 1, 0, 0, .null, []), (48, .iadd, 1, 0, 0, .null, []), (49, .iaload, 1, 0, 0, .null, []),
  (50, .goto 35, 3, 85, 0, .null, []), (53, .iload_n 2, 1, 0, 0, .null, []), (54, .iconst 4, 1, 0, 0, .null, []), (55, .if_icmp .ne 22, 3, 77, 0, .null, []), (58, .aload_n 0, 1, 0, 0, .null, []), (59, .getfield 9, 3, 6, 0, .null, [883, 0]),
  (62, .iload_n 1, 1, 0, 0, .null, []), (63, .invokestatic 166, 3, 169, 2, .null, [1048, 0, 1049, 61]), (66, .ifCond .eq 7, 3, 73, 0, .null, []), (69, .iconst 1, 1, 0, 0, .null, []), (70, .goto 15, 3, 85, 0, .null, []), (73, .iconst 0, 1, 0, 0, .null, []),
  (74, .goto 11, 3, 85, 0, .null, []), (77, .aload_n 0, 1, 0, 0, .null, []), (78, .getfield 9, 3, 6, 0, .null, [883, 0]), (81, .iload_n 1, 1, 0, 0, .null, []), (82, .invokestatic 69, 3, 171, 2, .null, [1054, 0, 1055, 61]), (85, .ireturn, 1, 0, 0, .null, [])]
/-- SmallerInTheShopModel isPanel (I)Z -/
def mp_168 : List (Nat × mm_I) := [(0, .iload_n 0, 1, 0, 0, .null, []), (1, .i2l, 1, 0, 0, .null, []), (2, .lconst 0, 1, 0, 0, .null, []), (3, .ldc2_w 155, 3, 0, 0, .long (7), [1047]), (6, .invokestatic 57, 3, 146, 3, .null, [967, 0, 968, 61]), (9, .ireturn, 1, 0, 0, .null, [])]
/-- SmallerInTheShopModel isRead ([II)Z -/
def mp_169 : List (Nat × mm_I) := [(0, .aload_n 0, 1, 0, 0, .null, []), (1, .iload_n 1, 1, 0, 0, .null, []), (2, .iconst 0, 1, 0, 0, .null, []), (3, .invokestatic 72, 3, 170, 3, .null, [1051, 0, 1052, 61]), (6, .ireturn, 1, 0, 0, .null, [])]
/-- SmallerInTheShopModel shows ([III)Z -/
def mp_170 : List (Nat × mm_I) := [(0, .aload_n 0, 1, 0, 0, .null, []), (1, .bipush 40, 2, 0, 0, .null, []), (3, .iconst 4, 1, 0, 0, .null, []), (4, .iload_n 1, 1, 0, 0, .null, []), (5, .imul, 1, 0, 0, .null, []), (6, .iadd, 1, 0, 0, .null, []),
  (7, .iconst 3, 1, 0, 0, .null, []), (8, .iadd, 1, 0, 0, .null, []), (9, .iaload, 1, 0, 0, .null, []), (10, .iload_n 2, 1, 0, 0, .null, []), (11, .if_icmp .ne 7, 3, 18, 0, .null, []), (14, .iconst 1, 1, 0, 0, .null, []),
  (15, .goto 4, 3, 19, 0, .null, []), (18, .iconst 0, 1, 0, 0, .null, []), (19, .istore_n 3, 1, 0, 0, .null, []), (20, .iload_n 3, 1, 0, 0, .null, []), (21, .ifCond .eq 11, 3, 32, 0, .null, []), (24, .aload_n 0, 1, 0, 0, .null, []),
  (25, .iload_n 1, 1, 0, 0, .null, []), (26, .invokestatic 69, 3, 171, 2, .null, [1054, 0, 1055, 61]), (29, .ifCond .eq 20, 3, 49, 0, .null, []), (32, .iload_n 3, 1, 0, 0, .null, []), (33, .ifCond .ne 20, 3, 53, 0, .null, []), (36, .aload_n 0, 1, 0, 0, .null, []),
  (37, .bipush 40, 2, 0, 0, .null, []), (39, .iconst 4, 1, 0, 0, .null, []), (40, .iload_n 1, 1, 0, 0, .null, []), (41, .imul, 1, 0, 0, .null, []), (42, .iadd, 1, 0, 0, .null, []), (43, .iconst 2, 1, 0, 0, .null, []),
  (44, .iadd, 1, 0, 0, .null, []), (45, .iaload, 1, 0, 0, .null, []), (46, .ifCond .ne 7, 3, 53, 0, .null, []), (49, .iconst 1, 1, 0, 0, .null, []), (50, .goto 4, 3, 54, 0, .null, []), (53, .iconst 0, 1, 0, 0, .null, []),
  (54, .ireturn, 1, 0, 0, .null, [])]
/-- SmallerInTheShopModel above ([II)I -/
def mp_171 : List (Nat × mm_I) := [(0, .iconst 0, 1, 0, 0, .null, []), (1, .istore_n 2, 1, 0, 0, .null, []), (2, .iconst 0, 1, 0, 0, .null, []), (3, .istore_n 3, 1, 0, 0, .null, []), (4, .iload_n 3, 1, 0, 0, .null, []), (5, .bipush 8, 2, 0, 0, .null, []),
  (7, .if_icmp .ge 54, 3, 61, 0, .null, []), (10, .iload_n 2, 1, 0, 0, .null, []), (11, .iload_n 3, 1, 0, 0, .null, []), (12, .iload_n 1, 1, 0, 0, .null, []), (13, .if_icmp .eq 39, 3, 52, 0, .null, []), (16, .aload_n 0, 1, 0, 0, .null, []),
  (17, .iload_n 1, 1, 0, 0, .null, []), (18, .iload_n 3, 1, 0, 0, .null, []), (19, .invokestatic 65, 3, 163, 3, .null, [1025, 0, 1026, 61]), (22, .ifCond .eq 30, 3, 52, 0, .null, []), (25, .aload_n 0, 1, 0, 0, .null, []), (26, .bipush 40, 2, 0, 0, .null, []),
  (28, .iconst 4, 1, 0, 0, .null, []), (29, .iload_n 3, 1, 0, 0, .null, []), (30, .imul, 1, 0, 0, .null, []), (31, .iadd, 1, 0, 0, .null, []), (32, .iconst 2, 1, 0, 0, .null, []), (33, .iadd, 1, 0, 0, .null, []),
  (34, .iaload, 1, 0, 0, .null, []), (35, .aload_n 0, 1, 0, 0, .null, []), (36, .bipush 40, 2, 0, 0, .null, []), (38, .iconst 4, 1, 0, 0, .null, []), (39, .iload_n 1, 1, 0, 0, .null, []), (40, .imul, 1, 0, 0, .null, []),
  (41, .iadd, 1, 0, 0, .null, []), (42, .iconst 2, 1, 0, 0, .null, []), (43, .iadd, 1, 0, 0, .null, []), (44, .iaload, 1, 0, 0, .null, []), (45, .if_icmp .le 7, 3, 52, 0, .null, []), (48, .iconst 1, 1, 0, 0, .null, []),
  (49, .goto 4, 3, 53, 0, .null, []), (52, .iconst 0, 1, 0, 0, .null, []), (53, .iadd, 1, 0, 0, .null, []), (54, .istore_n 2, 1, 0, 0, .null, []), (55, .iinc 3 1, 3, 0, 0, .null, []), (58, .goto (-54), 3, 4, 0, .null, []),
  (61, .iload_n 2, 1, 0, 0, .null, []), (62, .ireturn, 1, 0, 0, .null, [])]
/-- SmallerInTheShopModel fold (II)I -/
def mp_172 : List (Nat × mm_I) := [(0, .aload_n 0, 1, 0, 0, .null, []), (1, .getfield 9, 3, 6, 0, .null, [883, 0]), (4, .iload_n 1, 1, 0, 0, .null, []), (5, .invokestatic 132, 3, 150, 2, .null, [981, 0, 982, 61]), (8, .ifCond .ne 9, 3, 17, 0, .null, []), (11, .aload_n 0, 1, 0, 0, .null, []),
  (12, .iconst (-1), 1, 0, 0, .null, []), (13, .invokevirtual 41, 3, 141, 2, .null, [945, 0, 947, 61, 33]), (16, .ireturn, 1, 0, 0, .null, []), (17, .iload_n 2, 1, 0, 0, .null, []), (18, .i2l, 1, 0, 0, .null, []), (19, .lconst 0, 1, 0, 0, .null, []),
  (20, .ldc2_w 55, 3, 0, 0, .long (3), [984]), (23, .invokestatic 57, 3, 146, 3, .null, [967, 0, 968, 61]), (26, .ifCond .eq 16, 3, 42, 0, .null, []), (29, .aload_n 0, 1, 0, 0, .null, []), (30, .aload_n 0, 1, 0, 0, .null, []), (31, .getfield 9, 3, 6, 0, .null, [883, 0]),
  (34, .iload_n 1, 1, 0, 0, .null, []), (35, .iload_n 2, 1, 0, 0, .null, []), (36, .invokevirtual 136, 3, 152, 4, .null, [989, 0, 991, 61, 38]), (39, .goto 9, 3, 48, 0, .null, []), (42, .aload_n 0, 1, 0, 0, .null, []), (43, .bipush (-2), 2, 0, 0, .null, []),
  (45, .invokevirtual 41, 3, 141, 2, .null, [945, 0, 947, 61, 33]), (48, .ireturn, 1, 0, 0, .null, [])]
/-- SmallerInTheShopModel opens ()I -/
def mp_173 : List (Nat × mm_I) := [(0, .aload_n 0, 1, 0, 0, .null, []), (1, .getfield 9, 3, 6, 0, .null, [883, 0]), (4, .bipush 73, 2, 0, 0, .null, []), (6, .iaload, 1, 0, 0, .null, []), (7, .ifCond .ne 10, 3, 17, 0, .null, []), (10, .aload_n 0, 1, 0, 0, .null, []),
  (11, .bipush (-3), 2, 0, 0, .null, []), (13, .invokevirtual 41, 3, 141, 2, .null, [945, 0, 947, 61, 33]), (16, .ireturn, 1, 0, 0, .null, []), (17, .aload_n 0, 1, 0, 0, .null, []), (18, .getfield 9, 3, 6, 0, .null, [883, 0]), (21, .invokestatic 139, 3, 164, 1, .null, [1028, 0, 1029, 61]),
  (24, .aload_n 0, 1, 0, 0, .null, []), (25, .getfield 9, 3, 6, 0, .null, [883, 0]), (28, .bipush 73, 2, 0, 0, .null, []), (30, .iaload, 1, 0, 0, .null, []), (31, .ireturn, 1, 0, 0, .null, [])]
/-- SmallerInTheShopModel wears (II)I -/
def mp_174 : List (Nat × mm_I) := [(0, .iload_n 1, 1, 0, 0, .null, []), (1, .invokestatic 157, 3, 166, 1, .null, [1035, 0, 1036, 61]), (4, .ifCond .ne 9, 3, 13, 0, .null, []), (7, .aload_n 0, 1, 0, 0, .null, []), (8, .iconst (-1), 1, 0, 0, .null, []), (9, .invokevirtual 41, 3, 141, 2, .null, [945, 0, 947, 61, 33]),
  (12, .ireturn, 1, 0, 0, .null, []), (13, .iload_n 2, 1, 0, 0, .null, []), (14, .i2l, 1, 0, 0, .null, []), (15, .lconst 0, 1, 0, 0, .null, []), (16, .ldc2_w 169, 3, 0, 0, .long (99), [1069]), (19, .invokestatic 57, 3, 146, 3, .null, [967, 0, 968, 61]),
  (22, .ifCond .ne 19, 3, 41, 0, .null, []), (25, .aload_n 0, 1, 0, 0, .null, []), (26, .iload_n 2, 1, 0, 0, .null, []), (27, .ifCond .ge 8, 3, 35, 0, .null, []), (30, .bipush (-4), 2, 0, 0, .null, []), (32, .goto 5, 3, 37, 0, .null, []),
  (35, .bipush (-6), 2, 0, 0, .null, []), (37, .invokevirtual 41, 3, 141, 2, .null, [945, 0, 947, 61, 33]), (40, .ireturn, 1, 0, 0, .null, []), (41, .aload_n 0, 1, 0, 0, .null, []), (42, .getfield 9, 3, 6, 0, .null, [883, 0]), (45, .bipush 20, 2, 0, 0, .null, []),
  (47, .iload_n 1, 1, 0, 0, .null, []), (48, .iadd, 1, 0, 0, .null, []), (49, .iaload, 1, 0, 0, .null, []), (50, .istore_n 3, 1, 0, 0, .null, []), (51, .aload_n 0, 1, 0, 0, .null, []), (52, .getfield 9, 3, 6, 0, .null, [883, 0]),
  (55, .bipush 20, 2, 0, 0, .null, []), (57, .iload_n 1, 1, 0, 0, .null, []), (58, .iadd, 1, 0, 0, .null, []), (59, .iload_n 2, 1, 0, 0, .null, []), (60, .iastore, 1, 0, 0, .null, []), (61, .iload_n 3, 1, 0, 0, .null, []),
  (62, .ireturn, 1, 0, 0, .null, [])]
/-- SmallerInTheShopModel turn (III)I -/
def mp_175 : List (Nat × mm_I) := [(0, .iload_n 1, 1, 0, 0, .null, []), (1, .invokestatic 157, 3, 166, 1, .null, [1035, 0, 1036, 61]), (4, .ifCond .ne 9, 3, 13, 0, .null, []), (7, .aload_n 0, 1, 0, 0, .null, []), (8, .iconst (-1), 1, 0, 0, .null, []), (9, .invokevirtual 41, 3, 141, 2, .null, [945, 0, 947, 61, 33]),
  (12, .ireturn, 1, 0, 0, .null, []), (13, .iload_n 2, 1, 0, 0, .null, []), (14, .i2l, 1, 0, 0, .null, []), (15, .lconst 0, 1, 0, 0, .null, []), (16, .ldc2_w 161, 3, 0, 0, .long (5), [1039]), (19, .invokestatic 57, 3, 146, 3, .null, [967, 0, 968, 61]),
  (22, .ifCond .ne 10, 3, 32, 0, .null, []), (25, .aload_n 0, 1, 0, 0, .null, []), (26, .bipush (-2), 2, 0, 0, .null, []), (28, .invokevirtual 41, 3, 141, 2, .null, [945, 0, 947, 61, 33]), (31, .ireturn, 1, 0, 0, .null, []), (32, .iload_n 3, 1, 0, 0, .null, []),
  (33, .i2l, 1, 0, 0, .null, []), (34, .lconst 0, 1, 0, 0, .null, []), (35, .ldc2_w 153, 3, 0, 0, .long (9), [1038]), (38, .invokestatic 57, 3, 146, 3, .null, [967, 0, 968, 61]), (41, .ifCond .ne 19, 3, 60, 0, .null, []), (44, .aload_n 0, 1, 0, 0, .null, []),
  (45, .iload_n 3, 1, 0, 0, .null, []), (46, .ifCond .ge 8, 3, 54, 0, .null, []), (49, .bipush (-4), 2, 0, 0, .null, []), (51, .goto 5, 3, 56, 0, .null, []), (54, .bipush (-6), 2, 0, 0, .null, []), (56, .invokevirtual 41, 3, 141, 2, .null, [945, 0, 947, 61, 33]),
  (59, .ireturn, 1, 0, 0, .null, []), (60, .bipush 10, 2, 0, 0, .null, []), (62, .aload_n 0, 1, 0, 0, .null, []), (63, .getfield 9, 3, 6, 0, .null, [883, 0]), (66, .iconst 0, 1, 0, 0, .null, []), (67, .iload_n 1, 1, 0, 0, .null, []),
  (68, .iadd, 1, 0, 0, .null, []), (69, .iaload, 1, 0, 0, .null, []), (70, .imul, 1, 0, 0, .null, []), (71, .aload_n 0, 1, 0, 0, .null, []), (72, .getfield 9, 3, 6, 0, .null, [883, 0]), (75, .bipush 10, 2, 0, 0, .null, []),
  (77, .iload_n 1, 1, 0, 0, .null, []), (78, .iadd, 1, 0, 0, .null, []), (79, .iaload, 1, 0, 0, .null, []), (80, .iadd, 1, 0, 0, .null, []), (81, .istore 4, 2, 0, 0, .null, []), (83, .aload_n 0, 1, 0, 0, .null, []),
  (84, .getfield 9, 3, 6, 0, .null, [883, 0]), (87, .iconst 0, 1, 0, 0, .null, []), (88, .iload_n 1, 1, 0, 0, .null, []), (89, .iadd, 1, 0, 0, .null, []), (90, .iload_n 2, 1, 0, 0, .null, []), (91, .iastore, 1, 0, 0, .null, []),
  (92, .aload_n 0, 1, 0, 0, .null, []), (93, .getfield 9, 3, 6, 0, .null, [883, 0]), (96, .bipush 10, 2, 0, 0, .null, []), (98, .iload_n 1, 1, 0, 0, .null, []), (99, .iadd, 1, 0, 0, .null, []), (100, .iload_n 3, 1, 0, 0, .null, []),
  (101, .iastore, 1, 0, 0, .null, []), (102, .iload 4, 2, 0, 0, .null, []), (104, .ireturn, 1, 0, 0, .null, [])]
/-- SmallerInTheShopModel cover (I)I -/
def mp_176 : List (Nat × mm_I) := [(0, .iload_n 1, 1, 0, 0, .null, []), (1, .invokestatic 163, 3, 168, 1, .null, [1044, 0, 1045, 61]), (4, .ifCond .ne 9, 3, 13, 0, .null, []), (7, .aload_n 0, 1, 0, 0, .null, []), (8, .iconst (-1), 1, 0, 0, .null, []), (9, .invokevirtual 41, 3, 141, 2, .null, [945, 0, 947, 61, 33]),
  (12, .ireturn, 1, 0, 0, .null, []), (13, .aload_n 0, 1, 0, 0, .null, []), (14, .getfield 9, 3, 6, 0, .null, [883, 0]), (17, .bipush 72, 2, 0, 0, .null, []), (19, .iaload, 1, 0, 0, .null, []), (20, .istore_n 2, 1, 0, 0, .null, []),
  (21, .aload_n 0, 1, 0, 0, .null, []), (22, .getfield 9, 3, 6, 0, .null, [883, 0]), (25, .bipush 72, 2, 0, 0, .null, []), (27, .iload_n 1, 1, 0, 0, .null, []), (28, .iastore, 1, 0, 0, .null, []), (29, .iload_n 2, 1, 0, 0, .null, []),
  (30, .ireturn, 1, 0, 0, .null, [])]
/-- SmallerInTheShopModel hurts (III)I -/
def mp_177 : List (Nat × mm_I) := [(0, .aload_n 0, 1, 0, 0, .null, []), (1, .getfield 9, 3, 6, 0, .null, [883, 0]), (4, .iload_n 1, 1, 0, 0, .null, []), (5, .invokestatic 132, 3, 150, 2, .null, [981, 0, 982, 61]), (8, .ifCond .ne 9, 3, 17, 0, .null, []), (11, .aload_n 0, 1, 0, 0, .null, []),
  (12, .iconst (-1), 1, 0, 0, .null, []), (13, .invokevirtual 41, 3, 141, 2, .null, [945, 0, 947, 61, 33]), (16, .ireturn, 1, 0, 0, .null, []), (17, .iload_n 2, 1, 0, 0, .null, []), (18, .i2l, 1, 0, 0, .null, []), (19, .lconst 0, 1, 0, 0, .null, []),
  (20, .ldc2_w 55, 3, 0, 0, .long (3), [984]), (23, .invokestatic 57, 3, 146, 3, .null, [967, 0, 968, 61]), (26, .ifCond .eq 15, 3, 41, 0, .null, []), (29, .iload_n 3, 1, 0, 0, .null, []), (30, .i2l, 1, 0, 0, .null, []), (31, .lconst 0, 1, 0, 0, .null, []),
  (32, .ldc2_w 171, 3, 0, 0, .long (2), [1082]), (35, .invokestatic 57, 3, 146, 3, .null, [967, 0, 968, 61]), (38, .ifCond .ne 10, 3, 48, 0, .null, []), (41, .aload_n 0, 1, 0, 0, .null, []), (42, .bipush (-2), 2, 0, 0, .null, []), (44, .invokevirtual 41, 3, 141, 2, .null, [945, 0, 947, 61, 33]),
  (47, .ireturn, 1, 0, 0, .null, []), (48, .aload_n 0, 1, 0, 0, .null, []), (49, .getfield 9, 3, 6, 0, .null, [883, 0]), (52, .aload_n 0, 1, 0, 0, .null, []), (53, .getfield 18, 3, 6, 2, .null, [885, 0]), (56, .iconst 0, 1, 0, 0, .null, []),
  (57, .aaload, 1, 0, 0, .null, []), (58, .invokestatic 146, 3, 147, 2, .null, [970, 0, 971, 61]), (61, .aload_n 0, 1, 0, 0, .null, []), (62, .aload_n 0, 1, 0, 0, .null, []), (63, .getfield 18, 3, 6, 2, .null, [885, 0]), (66, .iconst 0, 1, 0, 0, .null, []),
  (67, .aaload, 1, 0, 0, .null, []), (68, .iload_n 1, 1, 0, 0, .null, []), (69, .iload_n 2, 1, 0, 0, .null, []), (70, .invokevirtual 136, 3, 152, 4, .null, [989, 0, 991, 61, 38]), (73, .istore 4, 2, 0, 0, .null, []), (75, .iload_n 3, 1, 0, 0, .null, []),
  (76, .ifCond .ne 8, 3, 84, 0, .null, []), (79, .iload 4, 2, 0, 0, .null, []), (81, .goto 36, 3, 117, 0, .null, []), (84, .iload_n 3, 1, 0, 0, .null, []), (85, .iconst 1, 1, 0, 0, .null, []), (86, .if_icmp .ne 14, 3, 100, 0, .null, []),
  (89, .aload_n 0, 1, 0, 0, .null, []), (90, .getfield 9, 3, 6, 0, .null, [883, 0]), (93, .iload_n 1, 1, 0, 0, .null, []), (94, .invokestatic 84, 3, 153, 2, .null, [993, 0, 994, 61]), (97, .goto 20, 3, 117, 0, .null, []), (100, .aload_n 0, 1, 0, 0, .null, []),
  (101, .getfield 18, 3, 6, 2, .null, [885, 0]), (104, .iconst 0, 1, 0, 0, .null, []), (105, .aaload, 1, 0, 0, .null, []), (106, .invokestatic 173, 3, 178, 1, .null, [1083, 0, 1084, 61]), (109, .aload_n 0, 1, 0, 0, .null, []), (110, .getfield 9, 3, 6, 0, .null, [883, 0]),
  (113, .invokestatic 173, 3, 178, 1, .null, [1083, 0, 1084, 61]), (116, .isub, 1, 0, 0, .null, []), (117, .ireturn, 1, 0, 0, .null, [])]
/-- SmallerInTheShopModel wornAll ([I)I -/
def mp_178 : List (Nat × mm_I) := [(0, .iconst 0, 1, 0, 0, .null, []), (1, .istore_n 1, 1, 0, 0, .null, []), (2, .iconst 0, 1, 0, 0, .null, []), (3, .istore_n 2, 1, 0, 0, .null, []), (4, .iload_n 2, 1, 0, 0, .null, []), (5, .bipush 10, 2, 0, 0, .null, []),
  (7, .if_icmp .ge 18, 3, 25, 0, .null, []), (10, .iload_n 1, 1, 0, 0, .null, []), (11, .aload_n 0, 1, 0, 0, .null, []), (12, .bipush 20, 2, 0, 0, .null, []), (14, .iload_n 2, 1, 0, 0, .null, []), (15, .iadd, 1, 0, 0, .null, []),
  (16, .iaload, 1, 0, 0, .null, []), (17, .iadd, 1, 0, 0, .null, []), (18, .istore_n 1, 1, 0, 0, .null, []), (19, .iinc 2 1, 3, 0, 0, .null, []), (22, .goto (-18), 3, 4, 0, .null, []), (25, .iload_n 1, 1, 0, 0, .null, []),
  (26, .ireturn, 1, 0, 0, .null, [])]
/-- SmallerInTheShopModel over (II)I -/
def mp_179 : List (Nat × mm_I) := [(0, .iload_n 1, 1, 0, 0, .null, []), (1, .invokestatic 163, 3, 168, 1, .null, [1044, 0, 1045, 61]), (4, .ifCond .eq 15, 3, 19, 0, .null, []), (7, .iload_n 2, 1, 0, 0, .null, []), (8, .invokestatic 163, 3, 168, 1, .null, [1044, 0, 1045, 61]), (11, .ifCond .eq 8, 3, 19, 0, .null, []),
  (14, .iload_n 1, 1, 0, 0, .null, []), (15, .iload_n 2, 1, 0, 0, .null, []), (16, .if_icmp .ne 9, 3, 25, 0, .null, []), (19, .aload_n 0, 1, 0, 0, .null, []), (20, .iconst (-1), 1, 0, 0, .null, []), (21, .invokevirtual 41, 3, 141, 2, .null, [945, 0, 947, 61, 33]),
  (24, .ireturn, 1, 0, 0, .null, []), (25, .aload_n 0, 1, 0, 0, .null, []), (26, .getfield 9, 3, 6, 0, .null, [883, 0]), (29, .iload_n 1, 1, 0, 0, .null, []), (30, .iload_n 2, 1, 0, 0, .null, []), (31, .invokestatic 65, 3, 163, 3, .null, [1025, 0, 1026, 61]),
  (34, .ifCond .eq 36, 3, 70, 0, .null, []), (37, .aload_n 0, 1, 0, 0, .null, []), (38, .getfield 9, 3, 6, 0, .null, [883, 0]), (41, .bipush 40, 2, 0, 0, .null, []), (43, .iconst 4, 1, 0, 0, .null, []), (44, .iload_n 1, 1, 0, 0, .null, []),
  (45, .imul, 1, 0, 0, .null, []), (46, .iadd, 1, 0, 0, .null, []), (47, .iconst 2, 1, 0, 0, .null, []), (48, .iadd, 1, 0, 0, .null, []), (49, .iaload, 1, 0, 0, .null, []), (50, .aload_n 0, 1, 0, 0, .null, []),
  (51, .getfield 9, 3, 6, 0, .null, [883, 0]), (54, .bipush 40, 2, 0, 0, .null, []), (56, .iconst 4, 1, 0, 0, .null, []), (57, .iload_n 2, 1, 0, 0, .null, []), (58, .imul, 1, 0, 0, .null, []), (59, .iadd, 1, 0, 0, .null, []),
  (60, .iconst 2, 1, 0, 0, .null, []), (61, .iadd, 1, 0, 0, .null, []), (62, .iaload, 1, 0, 0, .null, []), (63, .if_icmp .le 7, 3, 70, 0, .null, []), (66, .iconst 1, 1, 0, 0, .null, []), (67, .goto 4, 3, 71, 0, .null, []),
  (70, .iconst 0, 1, 0, 0, .null, []), (71, .ireturn, 1, 0, 0, .null, [])]
/-- SmallerInTheShopModel wad (I)I -/
def mp_180 : List (Nat × mm_I) := [(0, .iload_n 1, 1, 0, 0, .null, []), (1, .tableswitch 106 0 6 #[43, 52, 61, 69, 77, 93, 101], 43, 0, 0, .null, []), (44, .aload_n 0, 1, 0, 0, .null, []), (45, .getfield 9, 3, 6, 0, .null, [883, 0]), (48, .iconst 0, 1, 0, 0, .null, []), (49, .invokestatic 61, 3, 151, 2, .null, [985, 0, 986, 61]),
  (52, .ireturn, 1, 0, 0, .null, []), (53, .aload_n 0, 1, 0, 0, .null, []), (54, .getfield 9, 3, 6, 0, .null, [883, 0]), (57, .iconst 1, 1, 0, 0, .null, []), (58, .invokestatic 61, 3, 151, 2, .null, [985, 0, 986, 61]), (61, .ireturn, 1, 0, 0, .null, []),
  (62, .aload_n 0, 1, 0, 0, .null, []), (63, .getfield 9, 3, 6, 0, .null, [883, 0]), (66, .invokestatic 177, 3, 181, 1, .null, [1094, 0, 1095, 61]), (69, .ireturn, 1, 0, 0, .null, []), (70, .aload_n 0, 1, 0, 0, .null, []), (71, .getfield 9, 3, 6, 0, .null, [883, 0]),
  (74, .invokestatic 180, 3, 182, 1, .null, [1097, 0, 1098, 61]), (77, .ireturn, 1, 0, 0, .null, []), (78, .aload_n 0, 1, 0, 0, .null, []), (79, .getfield 9, 3, 6, 0, .null, [883, 0]), (82, .invokestatic 183, 3, 183, 1, .null, [1100, 0, 1101, 61]), (85, .ifCond .eq 7, 3, 92, 0, .null, []),
  (88, .iconst 1, 1, 0, 0, .null, []), (89, .goto 4, 3, 93, 0, .null, []), (92, .iconst 0, 1, 0, 0, .null, []), (93, .ireturn, 1, 0, 0, .null, []), (94, .aload_n 0, 1, 0, 0, .null, []), (95, .getfield 9, 3, 6, 0, .null, [883, 0]),
  (98, .bipush 73, 2, 0, 0, .null, []), (100, .iaload, 1, 0, 0, .null, []), (101, .ireturn, 1, 0, 0, .null, []), (102, .aload_n 0, 1, 0, 0, .null, []), (103, .invokevirtual 187, 3, 184, 1, .null, [1103, 0, 1105, 61, 40]), (106, .ireturn, 1, 0, 0, .null, []),
  (107, .aload_n 0, 1, 0, 0, .null, []), (108, .bipush (-2), 2, 0, 0, .null, []), (110, .invokevirtual 41, 3, 141, 2, .null, [945, 0, 947, 61, 33]), (113, .ireturn, 1, 0, 0, .null, [])]
/-- SmallerInTheShopModel thickness ([I)I -/
def mp_181 : List (Nat × mm_I) := [(0, .iconst 0, 1, 0, 0, .null, []), (1, .istore_n 1, 1, 0, 0, .null, []), (2, .iconst 0, 1, 0, 0, .null, []), (3, .istore_n 2, 1, 0, 0, .null, []), (4, .iload_n 2, 1, 0, 0, .null, []), (5, .bipush 8, 2, 0, 0, .null, []),
  (7, .if_icmp .ge 51, 3, 58, 0, .null, []), (10, .iconst 0, 1, 0, 0, .null, []), (11, .istore_n 3, 1, 0, 0, .null, []), (12, .iconst 0, 1, 0, 0, .null, []), (13, .istore 4, 2, 0, 0, .null, []), (15, .iload 4, 2, 0, 0, .null, []),
  (17, .bipush 8, 2, 0, 0, .null, []), (19, .if_icmp .ge 27, 3, 46, 0, .null, []), (22, .iload_n 3, 1, 0, 0, .null, []), (23, .aload_n 0, 1, 0, 0, .null, []), (24, .iload_n 2, 1, 0, 0, .null, []), (25, .iload 4, 2, 0, 0, .null, []),
  (27, .invokestatic 65, 3, 163, 3, .null, [1025, 0, 1026, 61]), (30, .ifCond .eq 7, 3, 37, 0, .null, []), (33, .iconst 1, 1, 0, 0, .null, []), (34, .goto 4, 3, 38, 0, .null, []), (37, .iconst 0, 1, 0, 0, .null, []), (38, .iadd, 1, 0, 0, .null, []),
  (39, .istore_n 3, 1, 0, 0, .null, []), (40, .iinc 4 1, 3, 0, 0, .null, []), (43, .goto (-28), 3, 15, 0, .null, []), (46, .iload_n 1, 1, 0, 0, .null, []), (47, .iload_n 3, 1, 0, 0, .null, []), (48, .invokestatic 49, 3, 997, 2, .null, [988, 0, 363, 66, 364]),
  (51, .istore_n 1, 1, 0, 0, .null, []), (52, .iinc 2 1, 3, 0, 0, .null, []), (55, .goto (-51), 3, 4, 0, .null, []), (58, .iload_n 1, 1, 0, 0, .null, []), (59, .ireturn, 1, 0, 0, .null, [])]
/-- SmallerInTheShopModel readSet ([I)I -/
def mp_182 : List (Nat × mm_I) := [(0, .iconst 0, 1, 0, 0, .null, []), (1, .istore_n 1, 1, 0, 0, .null, []), (2, .iconst 0, 1, 0, 0, .null, []), (3, .istore_n 2, 1, 0, 0, .null, []), (4, .iload_n 2, 1, 0, 0, .null, []), (5, .bipush 8, 2, 0, 0, .null, []),
  (7, .if_icmp .ge 27, 3, 34, 0, .null, []), (10, .iload_n 1, 1, 0, 0, .null, []), (11, .aload_n 0, 1, 0, 0, .null, []), (12, .iload_n 2, 1, 0, 0, .null, []), (13, .invokestatic 166, 3, 169, 2, .null, [1048, 0, 1049, 61]), (16, .ifCond .eq 9, 3, 25, 0, .null, []),
  (19, .iconst 1, 1, 0, 0, .null, []), (20, .iload_n 2, 1, 0, 0, .null, []), (21, .ishl, 1, 0, 0, .null, []), (22, .goto 4, 3, 26, 0, .null, []), (25, .iconst 0, 1, 0, 0, .null, []), (26, .ior, 1, 0, 0, .null, []),
  (27, .istore_n 1, 1, 0, 0, .null, []), (28, .iinc 2 1, 3, 0, 0, .null, []), (31, .goto (-27), 3, 4, 0, .null, []), (34, .iload_n 1, 1, 0, 0, .null, []), (35, .ireturn, 1, 0, 0, .null, [])]
/-- SmallerInTheShopModel isOut ([I)Z -/
def mp_183 : List (Nat × mm_I) := [(0, .aload_n 0, 1, 0, 0, .null, []), (1, .aload_n 0, 1, 0, 0, .null, []), (2, .bipush 72, 2, 0, 0, .null, []), (4, .iaload, 1, 0, 0, .null, []), (5, .iconst 1, 1, 0, 0, .null, []), (6, .invokestatic 72, 3, 170, 3, .null, [1051, 0, 1052, 61]),
  (9, .ireturn, 1, 0, 0, .null, [])]
/-- SmallerInTheShopModel flat ()I -/
def mp_184 : List (Nat × mm_I) := [(0, .iconst 0, 1, 0, 0, .null, []), (1, .istore_n 1, 1, 0, 0, .null, []), (2, .iconst 0, 1, 0, 0, .null, []), (3, .istore_n 2, 1, 0, 0, .null, []), (4, .iload_n 2, 1, 0, 0, .null, []), (5, .bipush 10, 2, 0, 0, .null, []),
  (7, .if_icmp .ge 31, 3, 38, 0, .null, []), (10, .iload_n 1, 1, 0, 0, .null, []), (11, .aload_n 0, 1, 0, 0, .null, []), (12, .getfield 9, 3, 6, 0, .null, [883, 0]), (15, .bipush 30, 2, 0, 0, .null, []), (17, .iload_n 2, 1, 0, 0, .null, []),
  (18, .iadd, 1, 0, 0, .null, []), (19, .iaload, 1, 0, 0, .null, []), (20, .ifCond .ne 9, 3, 29, 0, .null, []), (23, .iconst 1, 1, 0, 0, .null, []), (24, .iload_n 2, 1, 0, 0, .null, []), (25, .ishl, 1, 0, 0, .null, []),
  (26, .goto 4, 3, 30, 0, .null, []), (29, .iconst 0, 1, 0, 0, .null, []), (30, .ior, 1, 0, 0, .null, []), (31, .istore_n 1, 1, 0, 0, .null, []), (32, .iinc 2 1, 3, 0, 0, .null, []), (35, .goto (-31), 3, 4, 0, .null, []),
  (38, .iload_n 1, 1, 0, 0, .null, []), (39, .ireturn, 1, 0, 0, .null, [])]
/-- SmallerInTheShopModel shut (I)I -/
def mp_185 : List (Nat × mm_I) := [(0, .iload_n 1, 1, 0, 0, .null, []), (1, .i2l, 1, 0, 0, .null, []), (2, .lconst 0, 1, 0, 0, .null, []), (3, .ldc2_w 171, 3, 0, 0, .long (2), [1082]), (6, .invokestatic 57, 3, 146, 3, .null, [967, 0, 968, 61]), (9, .ifCond .ne 10, 3, 19, 0, .null, []),
  (12, .aload_n 0, 1, 0, 0, .null, []), (13, .bipush (-2), 2, 0, 0, .null, []), (15, .invokevirtual 41, 3, 141, 2, .null, [945, 0, 947, 61, 33]), (18, .ireturn, 1, 0, 0, .null, []), (19, .aload_n 0, 1, 0, 0, .null, []), (20, .iconst 0, 1, 0, 0, .null, []),
  (21, .iconst 0, 1, 0, 0, .null, []), (22, .iconst 0, 1, 0, 0, .null, []), (23, .invokevirtual 235, 3, 186, 4, .null, [1111, 0, 1113, 61, 41]), (26, .iload_n 1, 1, 0, 0, .null, []), (27, .ifCond .ne 10, 3, 37, 0, .null, []), (30, .aload_n 0, 1, 0, 0, .null, []),
  (31, .getfield 191, 3, 6, 14, .null, [897, 0]), (34, .goto 19, 3, 53, 0, .null, []), (37, .iload_n 1, 1, 0, 0, .null, []), (38, .iconst 1, 1, 0, 0, .null, []), (39, .if_icmp .ne 10, 3, 49, 0, .null, []), (42, .aload_n 0, 1, 0, 0, .null, []),
  (43, .getfield 194, 3, 6, 15, .null, [898, 0]), (46, .goto 7, 3, 53, 0, .null, []), (49, .aload_n 0, 1, 0, 0, .null, []), (50, .getfield 210, 3, 6, 16, .null, [899, 0]), (53, .ireturn, 1, 0, 0, .null, [])]
/-- SmallerInTheShopModel seek (III)V -/
def mp_186 : List (Nat × mm_I) := [(0, .aload_n 0, 1, 0, 0, .null, []), (1, .iload_n 1, 1, 0, 0, .null, []), (2, .putfield 203, 3, 6, 11, .null, [894, 0]), (5, .aload_n 0, 1, 0, 0, .null, []), (6, .iload_n 2, 1, 0, 0, .null, []), (7, .putfield 213, 3, 6, 12, .null, [895, 0]),
  (10, .aload_n 0, 1, 0, 0, .null, []), (11, .iload_n 3, 1, 0, 0, .null, []), (12, .putfield 200, 3, 6, 13, .null, [896, 0]), (15, .aload_n 0, 1, 0, 0, .null, []), (16, .bipush (-9), 2, 0, 0, .null, []), (18, .putfield 191, 3, 6, 14, .null, [897, 0]),
  (21, .aload_n 0, 1, 0, 0, .null, []), (22, .bipush (-9), 2, 0, 0, .null, []), (24, .putfield 194, 3, 6, 15, .null, [898, 0]), (27, .aload_n 0, 1, 0, 0, .null, []), (28, .bipush (-9), 2, 0, 0, .null, []), (30, .putfield 210, 3, 6, 16, .null, [899, 0]),
  (33, .aload_n 0, 1, 0, 0, .null, []), (34, .iconst 0, 1, 0, 0, .null, []), (35, .putfield 216, 3, 6, 17, .null, [900, 0]), (38, .aload_n 0, 1, 0, 0, .null, []), (39, .getfield 9, 3, 6, 0, .null, [883, 0]), (42, .aload_n 0, 1, 0, 0, .null, []),
  (43, .getfield 18, 3, 6, 2, .null, [885, 0]), (46, .iconst 0, 1, 0, 0, .null, []), (47, .aaload, 1, 0, 0, .null, []), (48, .invokestatic 146, 3, 147, 2, .null, [970, 0, 971, 61]), (51, .aload_n 0, 1, 0, 0, .null, []), (52, .iconst 0, 1, 0, 0, .null, []),
  (53, .iconst 0, 1, 0, 0, .null, []), (54, .iconst 0, 1, 0, 0, .null, []), (55, .invokevirtual 231, 3, 187, 4, .null, [1115, 0, 1117, 61, 42]), (58, .return_, 1, 0, 0, .null, [])]
/-- SmallerInTheShopModel seeks (III)V -/
def mp_187 : List (Nat × mm_I) := [(0, .aload_n 0, 1, 0, 0, .null, []), (1, .aload_n 0, 1, 0, 0, .null, []), (2, .getfield 18, 3, 6, 2, .null, [885, 0]), (5, .iload_n 1, 1, 0, 0, .null, []), (6, .aaload, 1, 0, 0, .null, []), (7, .iload_n 1, 1, 0, 0, .null, []),
  (8, .iload_n 2, 1, 0, 0, .null, []), (9, .iload_n 3, 1, 0, 0, .null, []), (10, .invokevirtual 227, 3, 188, 5, .null, [1119, 0, 1121, 61, 43]), (13, .iconst 1, 1, 0, 0, .null, []), (14, .istore 4, 2, 0, 0, .null, []), (16, .iload 4, 2, 0, 0, .null, []),
  (18, .iconst 5, 1, 0, 0, .null, []), (19, .if_icmp .ge 97, 3, 116, 0, .null, []), (22, .iconst 0, 1, 0, 0, .null, []), (23, .istore 5, 2, 0, 0, .null, []), (25, .iload 5, 2, 0, 0, .null, []), (27, .iconst 4, 1, 0, 0, .null, []),
  (28, .if_icmp .ge 82, 3, 110, 0, .null, []), (31, .aload_n 0, 1, 0, 0, .null, []), (32, .getfield 18, 3, 6, 2, .null, [885, 0]), (35, .iload_n 1, 1, 0, 0, .null, []), (36, .aaload, 1, 0, 0, .null, []), (37, .iload 4, 2, 0, 0, .null, []),
  (39, .invokestatic 132, 3, 150, 2, .null, [981, 0, 982, 61]), (42, .ifCond .eq 68, 3, 110, 0, .null, []), (45, .aload_n 0, 1, 0, 0, .null, []), (46, .getfield 18, 3, 6, 2, .null, [885, 0]), (49, .iload_n 1, 1, 0, 0, .null, []), (50, .aaload, 1, 0, 0, .null, []),
  (51, .aload_n 0, 1, 0, 0, .null, []), (52, .getfield 18, 3, 6, 2, .null, [885, 0]), (55, .iload_n 1, 1, 0, 0, .null, []), (56, .iconst 1, 1, 0, 0, .null, []), (57, .iadd, 1, 0, 0, .null, []), (58, .aaload, 1, 0, 0, .null, []),
  (59, .invokestatic 146, 3, 147, 2, .null, [970, 0, 971, 61]), (62, .aload_n 0, 1, 0, 0, .null, []), (63, .aload_n 0, 1, 0, 0, .null, []), (64, .getfield 18, 3, 6, 2, .null, [885, 0]), (67, .iload_n 1, 1, 0, 0, .null, []), (68, .iconst 1, 1, 0, 0, .null, []),
  (69, .iadd, 1, 0, 0, .null, []), (70, .aaload, 1, 0, 0, .null, []), (71, .iload 4, 2, 0, 0, .null, []), (73, .iload 5, 2, 0, 0, .null, []), (75, .invokevirtual 136, 3, 152, 4, .null, [989, 0, 991, 61, 38]), (78, .istore 6, 2, 0, 0, .null, []),
  (80, .aload_n 0, 1, 0, 0, .null, []), (81, .iload_n 1, 1, 0, 0, .null, []), (82, .iconst 1, 1, 0, 0, .null, []), (83, .iadd, 1, 0, 0, .null, []), (84, .bipush 100, 2, 0, 0, .null, []), (86, .iload_n 2, 1, 0, 0, .null, []),
  (87, .imul, 1, 0, 0, .null, []), (88, .bipush 10, 2, 0, 0, .null, []), (90, .iload 4, 2, 0, 0, .null, []), (92, .imul, 1, 0, 0, .null, []), (93, .iadd, 1, 0, 0, .null, []), (94, .iload 5, 2, 0, 0, .null, []),
  (96, .iadd, 1, 0, 0, .null, []), (97, .iload_n 3, 1, 0, 0, .null, []), (98, .iload 6, 2, 0, 0, .null, []), (100, .iadd, 1, 0, 0, .null, []), (101, .invokevirtual 231, 3, 187, 4, .null, [1115, 0, 1117, 61, 42]), (104, .iinc 5 1, 3, 0, 0, .null, []),
  (107, .goto (-82), 3, 25, 0, .null, []), (110, .iinc 4 1, 3, 0, 0, .null, []), (113, .goto (-97), 3, 16, 0, .null, []), (116, .return_, 1, 0, 0, .null, [])]
/-- SmallerInTheShopModel meets ([IIII)V -/
def mp_188 : List (Nat × mm_I) := [(0, .aload_n 1, 1, 0, 0, .null, []), (1, .iconst 0, 1, 0, 0, .null, []), (2, .invokestatic 61, 3, 151, 2, .null, [985, 0, 986, 61]), (5, .aload_n 1, 1, 0, 0, .null, []), (6, .iconst 1, 1, 0, 0, .null, []), (7, .invokestatic 61, 3, 151, 2, .null, [985, 0, 986, 61]),
  (10, .imul, 1, 0, 0, .null, []), (11, .aload_n 0, 1, 0, 0, .null, []), (12, .getfield 200, 3, 6, 13, .null, [896, 0]), (15, .if_icmp .gt 7, 3, 22, 0, .null, []), (18, .iconst 1, 1, 0, 0, .null, []), (19, .goto 4, 3, 23, 0, .null, []),
  (22, .iconst 0, 1, 0, 0, .null, []), (23, .istore 5, 2, 0, 0, .null, []), (25, .aload_n 0, 1, 0, 0, .null, []), (26, .getfield 203, 3, 6, 11, .null, [894, 0]), (29, .ifCond .ne 52, 3, 81, 0, .null, []), (32, .aload_n 1, 1, 0, 0, .null, []),
  (33, .invokestatic 197, 3, 189, 1, .null, [1123, 0, 1124, 61]), (36, .ifCond .eq 45, 3, 81, 0, .null, []), (39, .aload_n 1, 1, 0, 0, .null, []), (40, .invokestatic 183, 3, 183, 1, .null, [1100, 0, 1101, 61]), (43, .ifCond .eq 38, 3, 81, 0, .null, []), (46, .aload_n 0, 1, 0, 0, .null, []),
  (47, .iload_n 3, 1, 0, 0, .null, []), (48, .iload 4, 2, 0, 0, .null, []), (50, .invokevirtual 206, 3, 190, 3, .null, [1126, 0, 1128, 61, 44]), (53, .aload_n 0, 1, 0, 0, .null, []), (54, .aload_n 0, 1, 0, 0, .null, []), (55, .getfield 210, 3, 6, 16, .null, [899, 0]),
  (58, .bipush (-9), 2, 0, 0, .null, []), (60, .if_icmp .ne 7, 3, 67, 0, .null, []), (63, .iload_n 2, 1, 0, 0, .null, []), (64, .goto 11, 3, 75, 0, .null, []), (67, .aload_n 0, 1, 0, 0, .null, []), (68, .getfield 210, 3, 6, 16, .null, [899, 0]),
  (71, .iload_n 2, 1, 0, 0, .null, []), (72, .invokestatic 81, 3, 998, 2, .null, [1002, 0, 366, 66, 367]), (75, .putfield 210, 3, 6, 16, .null, [899, 0]), (78, .goto 142, 3, 220, 0, .null, []), (81, .aload_n 0, 1, 0, 0, .null, []), (82, .getfield 203, 3, 6, 11, .null, [894, 0]),
  (85, .iconst 1, 1, 0, 0, .null, []), (86, .if_icmp .ne 38, 3, 124, 0, .null, []), (89, .iload_n 2, 1, 0, 0, .null, []), (90, .aload_n 0, 1, 0, 0, .null, []), (91, .getfield 213, 3, 6, 12, .null, [895, 0]), (94, .if_icmp .ne 30, 3, 124, 0, .null, []),
  (97, .aload_n 1, 1, 0, 0, .null, []), (98, .invokestatic 197, 3, 189, 1, .null, [1123, 0, 1124, 61]), (101, .ifCond .eq 23, 3, 124, 0, .null, []), (104, .aload_n 1, 1, 0, 0, .null, []), (105, .invokestatic 183, 3, 183, 1, .null, [1100, 0, 1101, 61]), (108, .ifCond .eq 16, 3, 124, 0, .null, []),
  (111, .aload_n 0, 1, 0, 0, .null, []), (112, .dup, 1, 0, 0, .null, []), (113, .getfield 216, 3, 6, 17, .null, [900, 0]), (116, .iconst 1, 1, 0, 0, .null, []), (117, .iadd, 1, 0, 0, .null, []), (118, .putfield 216, 3, 6, 17, .null, [900, 0]),
  (121, .goto 99, 3, 220, 0, .null, []), (124, .aload_n 0, 1, 0, 0, .null, []), (125, .getfield 203, 3, 6, 11, .null, [894, 0]), (128, .iconst 2, 1, 0, 0, .null, []), (129, .if_icmp .ne 34, 3, 163, 0, .null, []), (132, .iload 5, 2, 0, 0, .null, []),
  (134, .ifCond .eq 29, 3, 163, 0, .null, []), (137, .aload_n 1, 1, 0, 0, .null, []), (138, .invokestatic 180, 3, 182, 1, .null, [1097, 0, 1098, 61]), (141, .aload_n 0, 1, 0, 0, .null, []), (142, .getfield 213, 3, 6, 12, .null, [895, 0]), (145, .iand, 1, 0, 0, .null, []),
  (146, .aload_n 0, 1, 0, 0, .null, []), (147, .getfield 213, 3, 6, 12, .null, [895, 0]), (150, .if_icmp .ne 13, 3, 163, 0, .null, []), (153, .aload_n 0, 1, 0, 0, .null, []), (154, .iload_n 3, 1, 0, 0, .null, []), (155, .iload 4, 2, 0, 0, .null, []),
  (157, .invokevirtual 206, 3, 190, 3, .null, [1126, 0, 1128, 61, 44]), (160, .goto 60, 3, 220, 0, .null, []), (163, .aload_n 0, 1, 0, 0, .null, []), (164, .getfield 203, 3, 6, 11, .null, [894, 0]), (167, .iconst 3, 1, 0, 0, .null, []), (168, .if_icmp .ne 29, 3, 197, 0, .null, []),
  (171, .iload 5, 2, 0, 0, .null, []), (173, .ifCond .eq 24, 3, 197, 0, .null, []), (176, .aload_n 0, 1, 0, 0, .null, []), (177, .iload_n 3, 1, 0, 0, .null, []), (178, .aload_n 1, 1, 0, 0, .null, []), (179, .invokestatic 180, 3, 182, 1, .null, [1097, 0, 1098, 61]),
  (182, .aload_n 0, 1, 0, 0, .null, []), (183, .getfield 213, 3, 6, 12, .null, [895, 0]), (186, .iand, 1, 0, 0, .null, []), (187, .invokestatic 219, 3, 0, 1, .null, [1130, 0, 678, 69]), (190, .ineg, 1, 0, 0, .null, []), (191, .invokevirtual 206, 3, 190, 3, .null, [1126, 0, 1128, 61, 44]),
  (194, .goto 26, 3, 220, 0, .null, []), (197, .aload_n 0, 1, 0, 0, .null, []), (198, .getfield 203, 3, 6, 11, .null, [894, 0]), (201, .iconst 4, 1, 0, 0, .null, []), (202, .if_icmp .ne 18, 3, 220, 0, .null, []), (205, .aload_n 0, 1, 0, 0, .null, []),
  (206, .aload_n 1, 1, 0, 0, .null, []), (207, .invokevirtual 224, 3, 191, 2, .null, [1131, 0, 1133, 61, 45]), (210, .ifCond .eq 10, 3, 220, 0, .null, []), (213, .aload_n 0, 1, 0, 0, .null, []), (214, .iload_n 3, 1, 0, 0, .null, []), (215, .iload 4, 2, 0, 0, .null, []),
  (217, .invokevirtual 206, 3, 190, 3, .null, [1126, 0, 1128, 61, 44]), (220, .return_, 1, 0, 0, .null, [])]
/-- SmallerInTheShopModel isShut ([I)Z -/
def mp_189 : List (Nat × mm_I) := [(0, .aload_n 0, 1, 0, 0, .null, []), (1, .iconst 0, 1, 0, 0, .null, []), (2, .invokestatic 61, 3, 151, 2, .null, [985, 0, 986, 61]), (5, .iconst 1, 1, 0, 0, .null, []), (6, .if_icmp .ne 16, 3, 22, 0, .null, []), (9, .aload_n 0, 1, 0, 0, .null, []),
  (10, .iconst 1, 1, 0, 0, .null, []), (11, .invokestatic 61, 3, 151, 2, .null, [985, 0, 986, 61]), (14, .iconst 1, 1, 0, 0, .null, []), (15, .if_icmp .ne 7, 3, 22, 0, .null, []), (18, .iconst 1, 1, 0, 0, .null, []), (19, .goto 4, 3, 23, 0, .null, []),
  (22, .iconst 0, 1, 0, 0, .null, []), (23, .ireturn, 1, 0, 0, .null, [])]
/-- SmallerInTheShopModel better (II)V -/
def mp_190 : List (Nat × mm_I) := [(0, .aload_n 0, 1, 0, 0, .null, []), (1, .getfield 191, 3, 6, 14, .null, [897, 0]), (4, .bipush (-9), 2, 0, 0, .null, []), (6, .if_icmp .eq 27, 3, 33, 0, .null, []), (9, .iload_n 2, 1, 0, 0, .null, []), (10, .aload_n 0, 1, 0, 0, .null, []),
  (11, .getfield 194, 3, 6, 15, .null, [898, 0]), (14, .if_icmp .lt 19, 3, 33, 0, .null, []), (17, .iload_n 2, 1, 0, 0, .null, []), (18, .aload_n 0, 1, 0, 0, .null, []), (19, .getfield 194, 3, 6, 15, .null, [898, 0]), (22, .if_icmp .ne 21, 3, 43, 0, .null, []),
  (25, .iload_n 1, 1, 0, 0, .null, []), (26, .aload_n 0, 1, 0, 0, .null, []), (27, .getfield 191, 3, 6, 14, .null, [897, 0]), (30, .if_icmp .ge 13, 3, 43, 0, .null, []), (33, .aload_n 0, 1, 0, 0, .null, []), (34, .iload_n 1, 1, 0, 0, .null, []),
  (35, .putfield 191, 3, 6, 14, .null, [897, 0]), (38, .aload_n 0, 1, 0, 0, .null, []), (39, .iload_n 2, 1, 0, 0, .null, []), (40, .putfield 194, 3, 6, 15, .null, [898, 0]), (43, .return_, 1, 0, 0, .null, [])]
/-- SmallerInTheShopModel isAsTheRow ([I)Z -/
def mp_191 : List (Nat × mm_I) := [(0, .iconst 0, 1, 0, 0, .null, []), (1, .istore_n 2, 1, 0, 0, .null, []), (2, .iload_n 2, 1, 0, 0, .null, []), (3, .bipush 8, 2, 0, 0, .null, []), (5, .if_icmp .ge 64, 3, 69, 0, .null, []), (8, .iconst 0, 1, 0, 0, .null, []),
  (9, .istore_n 3, 1, 0, 0, .null, []), (10, .iconst 0, 1, 0, 0, .null, []), (11, .istore 4, 2, 0, 0, .null, []), (13, .iload 4, 2, 0, 0, .null, []), (15, .bipush 8, 2, 0, 0, .null, []), (17, .if_icmp .ge 40, 3, 57, 0, .null, []),
  (20, .iload_n 3, 1, 0, 0, .null, []), (21, .ifCond .ne 24, 3, 45, 0, .null, []), (24, .aload_n 0, 1, 0, 0, .null, []), (25, .getfield 24, 3, 6, 5, .null, [888, 0]), (28, .iload 4, 2, 0, 0, .null, []), (30, .iaload, 1, 0, 0, .null, []),
  (31, .iload_n 2, 1, 0, 0, .null, []), (32, .if_icmp .ne 17, 3, 49, 0, .null, []), (35, .aload_n 1, 1, 0, 0, .null, []), (36, .iload_n 2, 1, 0, 0, .null, []), (37, .invokestatic 69, 3, 171, 2, .null, [1054, 0, 1055, 61]), (40, .iload 4, 2, 0, 0, .null, []),
  (42, .if_icmp .ne 7, 3, 49, 0, .null, []), (45, .iconst 1, 1, 0, 0, .null, []), (46, .goto 4, 3, 50, 0, .null, []), (49, .iconst 0, 1, 0, 0, .null, []), (50, .istore_n 3, 1, 0, 0, .null, []), (51, .iinc 4 1, 3, 0, 0, .null, []),
  (54, .goto (-41), 3, 13, 0, .null, []), (57, .iload_n 3, 1, 0, 0, .null, []), (58, .ifCond .ne 5, 3, 63, 0, .null, []), (61, .iconst 0, 1, 0, 0, .null, []), (62, .ireturn, 1, 0, 0, .null, []), (63, .iinc 2 1, 3, 0, 0, .null, []),
  (66, .goto (-64), 3, 2, 0, .null, []), (69, .aload_n 1, 1, 0, 0, .null, []), (70, .invokestatic 197, 3, 189, 1, .null, [1123, 0, 1124, 61]), (73, .ireturn, 1, 0, 0, .null, [])]
/-- SmallerInTheShopModel ways (I)I -/
def mp_192 : List (Nat × mm_I) := [(0, .iload_n 1, 1, 0, 0, .null, []), (1, .i2l, 1, 0, 0, .null, []), (2, .lconst 0, 1, 0, 0, .null, []), (3, .ldc2_w 238, 3, 0, 0, .long (4), [1139]), (6, .invokestatic 57, 3, 146, 3, .null, [967, 0, 968, 61]), (9, .ifCond .ne 19, 3, 28, 0, .null, []),
  (12, .aload_n 0, 1, 0, 0, .null, []), (13, .iload_n 1, 1, 0, 0, .null, []), (14, .ifCond .ge 8, 3, 22, 0, .null, []), (17, .bipush (-4), 2, 0, 0, .null, []), (19, .goto 5, 3, 24, 0, .null, []), (22, .bipush (-6), 2, 0, 0, .null, []),
  (24, .invokevirtual 41, 3, 141, 2, .null, [945, 0, 947, 61, 33]), (27, .ireturn, 1, 0, 0, .null, []), (28, .aload_n 0, 1, 0, 0, .null, []), (29, .iconst 1, 1, 0, 0, .null, []), (30, .iload_n 1, 1, 0, 0, .null, []), (31, .iconst 0, 1, 0, 0, .null, []),
  (32, .invokevirtual 235, 3, 186, 4, .null, [1111, 0, 1113, 61, 41]), (35, .aload_n 0, 1, 0, 0, .null, []), (36, .getfield 216, 3, 6, 17, .null, [900, 0]), (39, .ireturn, 1, 0, 0, .null, [])]
/-- SmallerInTheShopModel up (IIII)I -/
def mp_193 : List (Nat × mm_I) := [(0, .iload_n 1, 1, 0, 0, .null, []), (1, .invokestatic 163, 3, 168, 1, .null, [1044, 0, 1045, 61]), (4, .ifCond .eq 15, 3, 19, 0, .null, []), (7, .iload_n 2, 1, 0, 0, .null, []), (8, .invokestatic 163, 3, 168, 1, .null, [1044, 0, 1045, 61]), (11, .ifCond .eq 8, 3, 19, 0, .null, []),
  (14, .iload_n 1, 1, 0, 0, .null, []), (15, .iload_n 2, 1, 0, 0, .null, []), (16, .if_icmp .ne 9, 3, 25, 0, .null, []), (19, .aload_n 0, 1, 0, 0, .null, []), (20, .iconst (-1), 1, 0, 0, .null, []), (21, .invokevirtual 41, 3, 141, 2, .null, [945, 0, 947, 61, 33]),
  (24, .ireturn, 1, 0, 0, .null, []), (25, .iload_n 3, 1, 0, 0, .null, []), (26, .i2l, 1, 0, 0, .null, []), (27, .lconst 1, 1, 0, 0, .null, []), (28, .ldc2_w 240, 3, 0, 0, .long (8), [1144]), (31, .invokestatic 57, 3, 146, 3, .null, [967, 0, 968, 61]),
  (34, .ifCond .ne 20, 3, 54, 0, .null, []), (37, .aload_n 0, 1, 0, 0, .null, []), (38, .iload_n 3, 1, 0, 0, .null, []), (39, .iconst 1, 1, 0, 0, .null, []), (40, .if_icmp .ge 8, 3, 48, 0, .null, []), (43, .bipush (-4), 2, 0, 0, .null, []),
  (45, .goto 5, 3, 50, 0, .null, []), (48, .bipush (-6), 2, 0, 0, .null, []), (50, .invokevirtual 41, 3, 141, 2, .null, [945, 0, 947, 61, 33]), (53, .ireturn, 1, 0, 0, .null, []), (54, .iload 4, 2, 0, 0, .null, []), (56, .i2l, 1, 0, 0, .null, []),
  (57, .lconst 0, 1, 0, 0, .null, []), (58, .lconst 1, 1, 0, 0, .null, []), (59, .invokestatic 57, 3, 146, 3, .null, [967, 0, 968, 61]), (62, .ifCond .ne 10, 3, 72, 0, .null, []), (65, .aload_n 0, 1, 0, 0, .null, []), (66, .bipush (-2), 2, 0, 0, .null, []),
  (68, .invokevirtual 41, 3, 141, 2, .null, [945, 0, 947, 61, 33]), (71, .ireturn, 1, 0, 0, .null, []), (72, .aload_n 0, 1, 0, 0, .null, []), (73, .iconst 2, 1, 0, 0, .null, []), (74, .iconst 1, 1, 0, 0, .null, []), (75, .iload_n 1, 1, 0, 0, .null, []),
  (76, .ishl, 1, 0, 0, .null, []), (77, .iconst 1, 1, 0, 0, .null, []), (78, .iload_n 2, 1, 0, 0, .null, []), (79, .ishl, 1, 0, 0, .null, []), (80, .ior, 1, 0, 0, .null, []), (81, .iload_n 3, 1, 0, 0, .null, []),
  (82, .invokevirtual 235, 3, 186, 4, .null, [1111, 0, 1113, 61, 41]), (85, .iload 4, 2, 0, 0, .null, []), (87, .ifCond .ne 10, 3, 97, 0, .null, []), (90, .aload_n 0, 1, 0, 0, .null, []), (91, .getfield 191, 3, 6, 14, .null, [897, 0]), (94, .goto 7, 3, 101, 0, .null, []),
  (97, .aload_n 0, 1, 0, 0, .null, []), (98, .getfield 194, 3, 6, 15, .null, [898, 0]), (101, .ireturn, 1, 0, 0, .null, [])]
/-- SmallerInTheShopModel most (III)I -/
def mp_194 : List (Nat × mm_I) := [(0, .iload_n 1, 1, 0, 0, .null, []), (1, .ifCond .lt 8, 3, 9, 0, .null, []), (4, .iload_n 2, 1, 0, 0, .null, []), (5, .iconst 1, 1, 0, 0, .null, []), (6, .if_icmp .ge 10, 3, 16, 0, .null, []), (9, .aload_n 0, 1, 0, 0, .null, []),
  (10, .bipush (-4), 2, 0, 0, .null, []), (12, .invokevirtual 41, 3, 141, 2, .null, [945, 0, 947, 61, 33]), (15, .ireturn, 1, 0, 0, .null, []), (16, .iload_n 1, 1, 0, 0, .null, []), (17, .sipush 255, 3, 0, 0, .null, []), (20, .if_icmp .gt 9, 3, 29, 0, .null, []),
  (23, .iload_n 2, 1, 0, 0, .null, []), (24, .bipush 8, 2, 0, 0, .null, []), (26, .if_icmp .le 10, 3, 36, 0, .null, []), (29, .aload_n 0, 1, 0, 0, .null, []), (30, .bipush (-6), 2, 0, 0, .null, []), (32, .invokevirtual 41, 3, 141, 2, .null, [945, 0, 947, 61, 33]),
  (35, .ireturn, 1, 0, 0, .null, []), (36, .iload_n 3, 1, 0, 0, .null, []), (37, .i2l, 1, 0, 0, .null, []), (38, .lconst 0, 1, 0, 0, .null, []), (39, .lconst 1, 1, 0, 0, .null, []), (40, .invokestatic 57, 3, 146, 3, .null, [967, 0, 968, 61]),
  (43, .ifCond .ne 10, 3, 53, 0, .null, []), (46, .aload_n 0, 1, 0, 0, .null, []), (47, .bipush (-2), 2, 0, 0, .null, []), (49, .invokevirtual 41, 3, 141, 2, .null, [945, 0, 947, 61, 33]), (52, .ireturn, 1, 0, 0, .null, []), (53, .aload_n 0, 1, 0, 0, .null, []),
  (54, .iconst 3, 1, 0, 0, .null, []), (55, .iload_n 1, 1, 0, 0, .null, []), (56, .iload_n 2, 1, 0, 0, .null, []), (57, .invokevirtual 235, 3, 186, 4, .null, [1111, 0, 1113, 61, 41]), (60, .iload_n 3, 1, 0, 0, .null, []), (61, .iconst 1, 1, 0, 0, .null, []),
  (62, .if_icmp .eq 12, 3, 74, 0, .null, []), (65, .aload_n 0, 1, 0, 0, .null, []), (66, .getfield 191, 3, 6, 14, .null, [897, 0]), (69, .bipush (-9), 2, 0, 0, .null, []), (71, .if_icmp .ne 10, 3, 81, 0, .null, []), (74, .aload_n 0, 1, 0, 0, .null, []),
  (75, .getfield 191, 3, 6, 14, .null, [897, 0]), (78, .goto 8, 3, 86, 0, .null, []), (81, .aload_n 0, 1, 0, 0, .null, []), (82, .getfield 194, 3, 6, 15, .null, [898, 0]), (85, .ineg, 1, 0, 0, .null, []), (86, .ireturn, 1, 0, 0, .null, [])]
/-- SmallerInTheShopModel layers ()I -/
def mp_195 : List (Nat × mm_I) := [(0, .aload_n 0, 1, 0, 0, .null, []), (1, .invokevirtual 245, 3, 196, 1, .null, [1153, 0, 1155, 61, 46]), (4, .ifCond .ne 6, 3, 10, 0, .null, []), (7, .bipush (-9), 2, 0, 0, .null, []), (9, .ireturn, 1, 0, 0, .null, []), (10, .aload_n 0, 1, 0, 0, .null, []),
  (11, .iconst 4, 1, 0, 0, .null, []), (12, .iconst 0, 1, 0, 0, .null, []), (13, .iconst 0, 1, 0, 0, .null, []), (14, .invokevirtual 235, 3, 186, 4, .null, [1111, 0, 1113, 61, 41]), (17, .aload_n 0, 1, 0, 0, .null, []), (18, .getfield 191, 3, 6, 14, .null, [897, 0]),
  (21, .ireturn, 1, 0, 0, .null, [])]
/-- SmallerInTheShopModel tellsAll ()Z -/
def mp_196 : List (Nat × mm_I) := [(0, .iconst 0, 1, 0, 0, .null, []), (1, .istore_n 1, 1, 0, 0, .null, []), (2, .iconst 0, 1, 0, 0, .null, []), (3, .istore_n 2, 1, 0, 0, .null, []), (4, .iload_n 2, 1, 0, 0, .null, []), (5, .aload_n 0, 1, 0, 0, .null, []),
  (6, .getfield 242, 3, 6, 6, .null, [889, 0]), (9, .if_icmp .ge 35, 3, 44, 0, .null, []), (12, .iload_n 1, 1, 0, 0, .null, []), (13, .aload_n 0, 1, 0, 0, .null, []), (14, .getfield 24, 3, 6, 5, .null, [888, 0]), (17, .iload_n 2, 1, 0, 0, .null, []),
  (18, .iaload, 1, 0, 0, .null, []), (19, .bipush 8, 2, 0, 0, .null, []), (21, .if_icmp .ge 14, 3, 35, 0, .null, []), (24, .iconst 1, 1, 0, 0, .null, []), (25, .aload_n 0, 1, 0, 0, .null, []), (26, .getfield 24, 3, 6, 5, .null, [888, 0]),
  (29, .iload_n 2, 1, 0, 0, .null, []), (30, .iaload, 1, 0, 0, .null, []), (31, .ishl, 1, 0, 0, .null, []), (32, .goto 4, 3, 36, 0, .null, []), (35, .iconst 0, 1, 0, 0, .null, []), (36, .ior, 1, 0, 0, .null, []),
  (37, .istore_n 1, 1, 0, 0, .null, []), (38, .iinc 2 1, 3, 0, 0, .null, []), (41, .goto (-37), 3, 4, 0, .null, []), (44, .aload_n 0, 1, 0, 0, .null, []), (45, .getfield 242, 3, 6, 6, .null, [889, 0]), (48, .bipush 8, 2, 0, 0, .null, []),
  (50, .if_icmp .ne 14, 3, 64, 0, .null, []), (53, .iload_n 1, 1, 0, 0, .null, []), (54, .sipush 255, 3, 0, 0, .null, []), (57, .if_icmp .ne 7, 3, 64, 0, .null, []), (60, .iconst 1, 1, 0, 0, .null, []), (61, .goto 4, 3, 65, 0, .null, []),
  (64, .iconst 0, 1, 0, 0, .null, []), (65, .ireturn, 1, 0, 0, .null, [])]
/-- SmallerInTheShopModel lasts (II)I -/
def mp_197 : List (Nat × mm_I) := [(0, .aload_n 0, 1, 0, 0, .null, []), (1, .getfield 9, 3, 6, 0, .null, [883, 0]), (4, .iload_n 1, 1, 0, 0, .null, []), (5, .invokestatic 132, 3, 150, 2, .null, [981, 0, 982, 61]), (8, .ifCond .ne 9, 3, 17, 0, .null, []), (11, .aload_n 0, 1, 0, 0, .null, []),
  (12, .iconst (-1), 1, 0, 0, .null, []), (13, .invokevirtual 41, 3, 141, 2, .null, [945, 0, 947, 61, 33]), (16, .ireturn, 1, 0, 0, .null, []), (17, .iload_n 2, 1, 0, 0, .null, []), (18, .i2l, 1, 0, 0, .null, []), (19, .lconst 0, 1, 0, 0, .null, []),
  (20, .ldc2_w 55, 3, 0, 0, .long (3), [984]), (23, .invokestatic 57, 3, 146, 3, .null, [967, 0, 968, 61]), (26, .ifCond .ne 10, 3, 36, 0, .null, []), (29, .aload_n 0, 1, 0, 0, .null, []), (30, .bipush (-2), 2, 0, 0, .null, []), (32, .invokevirtual 41, 3, 141, 2, .null, [945, 0, 947, 61, 33]),
  (35, .ireturn, 1, 0, 0, .null, []), (36, .aload_n 0, 1, 0, 0, .null, []), (37, .getfield 9, 3, 6, 0, .null, [883, 0]), (40, .aload_n 0, 1, 0, 0, .null, []), (41, .getfield 18, 3, 6, 2, .null, [885, 0]), (44, .iconst 1, 1, 0, 0, .null, []),
  (45, .aaload, 1, 0, 0, .null, []), (46, .invokestatic 146, 3, 147, 2, .null, [970, 0, 971, 61]), (49, .aload_n 0, 1, 0, 0, .null, []), (50, .iload_n 1, 1, 0, 0, .null, []), (51, .iload_n 2, 1, 0, 0, .null, []), (52, .invokevirtual 255, 3, 198, 3, .null, [1161, 0, 1163, 61, 47]),
  (55, .ireturn, 1, 0, 0, .null, [])]
/-- SmallerInTheShopModel times (II)I -/
def mp_198 : List (Nat × mm_I) := [(0, .aload_n 0, 1, 0, 0, .null, []), (1, .getfield 18, 3, 6, 2, .null, [885, 0]), (4, .iconst 1, 1, 0, 0, .null, []), (5, .aaload, 1, 0, 0, .null, []), (6, .invokestatic 252, 3, 199, 1, .null, [1165, 0, 1166, 61]), (9, .invokestatic 219, 3, 0, 1, .null, [1130, 0, 678, 69]),
  (12, .istore_n 3, 1, 0, 0, .null, []), (13, .iconst 1, 1, 0, 0, .null, []), (14, .istore 4, 2, 0, 0, .null, []), (16, .iload 4, 2, 0, 0, .null, []), (18, .bipush 99, 2, 0, 0, .null, []), (20, .if_icmp .ge 51, 3, 71, 0, .null, []),
  (23, .aload_n 0, 1, 0, 0, .null, []), (24, .aload_n 0, 1, 0, 0, .null, []), (25, .getfield 18, 3, 6, 2, .null, [885, 0]), (28, .iconst 1, 1, 0, 0, .null, []), (29, .aaload, 1, 0, 0, .null, []), (30, .iload_n 1, 1, 0, 0, .null, []),
  (31, .iload_n 2, 1, 0, 0, .null, []), (32, .invokevirtual 136, 3, 152, 4, .null, [989, 0, 991, 61, 38]), (35, .istore 5, 2, 0, 0, .null, []), (37, .aload_n 0, 1, 0, 0, .null, []), (38, .getfield 18, 3, 6, 2, .null, [885, 0]), (41, .iconst 1, 1, 0, 0, .null, []),
  (42, .aaload, 1, 0, 0, .null, []), (43, .invokestatic 139, 3, 164, 1, .null, [1028, 0, 1029, 61]), (46, .aload_n 0, 1, 0, 0, .null, []), (47, .getfield 18, 3, 6, 2, .null, [885, 0]), (50, .iconst 1, 1, 0, 0, .null, []), (51, .aaload, 1, 0, 0, .null, []),
  (52, .invokestatic 252, 3, 199, 1, .null, [1165, 0, 1166, 61]), (55, .invokestatic 219, 3, 0, 1, .null, [1130, 0, 678, 69]), (58, .iload_n 3, 1, 0, 0, .null, []), (59, .if_icmp .le 6, 3, 65, 0, .null, []), (62, .iload 4, 2, 0, 0, .null, []), (64, .ireturn, 1, 0, 0, .null, []),
  (65, .iinc 4 1, 3, 0, 0, .null, []), (68, .goto (-52), 3, 16, 0, .null, []), (71, .bipush 99, 2, 0, 0, .null, []), (73, .ireturn, 1, 0, 0, .null, [])]
/-- SmallerInTheShopModel holes ([I)I -/
def mp_199 : List (Nat × mm_I) := [(0, .iconst 0, 1, 0, 0, .null, []), (1, .istore_n 1, 1, 0, 0, .null, []), (2, .iconst 0, 1, 0, 0, .null, []), (3, .istore_n 2, 1, 0, 0, .null, []), (4, .iload_n 2, 1, 0, 0, .null, []), (5, .iconst 3, 1, 0, 0, .null, []),
  (6, .if_icmp .ge 29, 3, 35, 0, .null, []), (9, .iload_n 1, 1, 0, 0, .null, []), (10, .aload_n 0, 1, 0, 0, .null, []), (11, .iload_n 2, 1, 0, 0, .null, []), (12, .invokestatic 249, 3, 200, 2, .null, [1168, 0, 1169, 61]), (15, .bipush 40, 2, 0, 0, .null, []),
  (17, .if_icmp .lt 9, 3, 26, 0, .null, []), (20, .iconst 1, 1, 0, 0, .null, []), (21, .iload_n 2, 1, 0, 0, .null, []), (22, .ishl, 1, 0, 0, .null, []), (23, .goto 4, 3, 27, 0, .null, []), (26, .iconst 0, 1, 0, 0, .null, []),
  (27, .ior, 1, 0, 0, .null, []), (28, .istore_n 1, 1, 0, 0, .null, []), (29, .iinc 2 1, 3, 0, 0, .null, []), (32, .goto (-28), 3, 4, 0, .null, []), (35, .iload_n 1, 1, 0, 0, .null, []), (36, .ireturn, 1, 0, 0, .null, [])]
/-- SmallerInTheShopModel wornAt ([II)I -/
def mp_200 : List (Nat × mm_I) := [(0, .aload_n 0, 1, 0, 0, .null, []), (1, .bipush 20, 2, 0, 0, .null, []), (3, .iload_n 1, 1, 0, 0, .null, []), (4, .iadd, 1, 0, 0, .null, []), (5, .iaload, 1, 0, 0, .null, []), (6, .aload_n 0, 1, 0, 0, .null, []),
  (7, .bipush 23, 2, 0, 0, .null, []), (9, .iload_n 1, 1, 0, 0, .null, []), (10, .iadd, 1, 0, 0, .null, []), (11, .iaload, 1, 0, 0, .null, []), (12, .iadd, 1, 0, 0, .null, []), (13, .aload_n 0, 1, 0, 0, .null, []),
  (14, .bipush 26, 2, 0, 0, .null, []), (16, .iload_n 1, 1, 0, 0, .null, []), (17, .iadd, 1, 0, 0, .null, []), (18, .iaload, 1, 0, 0, .null, []), (19, .iadd, 1, 0, 0, .null, []), (20, .aload_n 0, 1, 0, 0, .null, []),
  (21, .bipush 27, 2, 0, 0, .null, []), (23, .iload_n 1, 1, 0, 0, .null, []), (24, .iadd, 1, 0, 0, .null, []), (25, .iaload, 1, 0, 0, .null, []), (26, .iadd, 1, 0, 0, .null, []), (27, .ireturn, 1, 0, 0, .null, [])]
/-- SmallerInTheShopModel tape (II)I -/
def mp_201 : List (Nat × mm_I) := [(0, .aload_n 0, 1, 0, 0, .null, []), (1, .getfield 9, 3, 6, 0, .null, [883, 0]), (4, .iload_n 1, 1, 0, 0, .null, []), (5, .invokestatic 132, 3, 150, 2, .null, [981, 0, 982, 61]), (8, .ifCond .ne 9, 3, 17, 0, .null, []), (11, .aload_n 0, 1, 0, 0, .null, []),
  (12, .iconst (-1), 1, 0, 0, .null, []), (13, .invokevirtual 41, 3, 141, 2, .null, [945, 0, 947, 61, 33]), (16, .ireturn, 1, 0, 0, .null, []), (17, .iload_n 2, 1, 0, 0, .null, []), (18, .i2l, 1, 0, 0, .null, []), (19, .lconst 0, 1, 0, 0, .null, []),
  (20, .ldc2_w 55, 3, 0, 0, .long (3), [984]), (23, .invokestatic 57, 3, 146, 3, .null, [967, 0, 968, 61]), (26, .ifCond .ne 10, 3, 36, 0, .null, []), (29, .aload_n 0, 1, 0, 0, .null, []), (30, .bipush (-2), 2, 0, 0, .null, []), (32, .invokevirtual 41, 3, 141, 2, .null, [945, 0, 947, 61, 33]),
  (35, .ireturn, 1, 0, 0, .null, []), (36, .aload_n 0, 1, 0, 0, .null, []), (37, .getfield 9, 3, 6, 0, .null, [883, 0]), (40, .aload_n 0, 1, 0, 0, .null, []), (41, .getfield 18, 3, 6, 2, .null, [885, 0]), (44, .iconst 1, 1, 0, 0, .null, []),
  (45, .aaload, 1, 0, 0, .null, []), (46, .invokestatic 146, 3, 147, 2, .null, [970, 0, 971, 61]), (49, .bipush (-9), 2, 0, 0, .null, []), (51, .istore_n 3, 1, 0, 0, .null, []), (52, .aload_n 0, 1, 0, 0, .null, []), (53, .iload_n 1, 1, 0, 0, .null, []),
  (54, .iload_n 2, 1, 0, 0, .null, []), (55, .invokevirtual 255, 3, 198, 3, .null, [1161, 0, 1163, 61, 47]), (58, .istore 4, 2, 0, 0, .null, []), (60, .iconst 0, 1, 0, 0, .null, []), (61, .istore 5, 2, 0, 0, .null, []), (63, .iload 5, 2, 0, 0, .null, []),
  (65, .bipush 10, 2, 0, 0, .null, []), (67, .if_icmp .ge 65, 3, 132, 0, .null, []), (70, .aload_n 0, 1, 0, 0, .null, []), (71, .getfield 9, 3, 6, 0, .null, [883, 0]), (74, .aload_n 0, 1, 0, 0, .null, []), (75, .getfield 18, 3, 6, 2, .null, [885, 0]),
  (78, .iconst 1, 1, 0, 0, .null, []), (79, .aaload, 1, 0, 0, .null, []), (80, .invokestatic 146, 3, 147, 2, .null, [970, 0, 971, 61]), (83, .aload_n 0, 1, 0, 0, .null, []), (84, .getfield 18, 3, 6, 2, .null, [885, 0]), (87, .iconst 1, 1, 0, 0, .null, []),
  (88, .aaload, 1, 0, 0, .null, []), (89, .iconst 0, 1, 0, 0, .null, []), (90, .iload 5, 2, 0, 0, .null, []), (92, .iadd, 1, 0, 0, .null, []), (93, .iconst 4, 1, 0, 0, .null, []), (94, .iastore, 1, 0, 0, .null, []),
  (95, .aload_n 0, 1, 0, 0, .null, []), (96, .iload_n 1, 1, 0, 0, .null, []), (97, .iload_n 2, 1, 0, 0, .null, []), (98, .invokevirtual 255, 3, 198, 3, .null, [1161, 0, 1163, 61, 47]), (101, .istore 6, 2, 0, 0, .null, []), (103, .iload 6, 2, 0, 0, .null, []),
  (105, .iload 4, 2, 0, 0, .null, []), (107, .if_icmp .le 8, 3, 115, 0, .null, []), (110, .iload 5, 2, 0, 0, .null, []), (112, .goto 4, 3, 116, 0, .null, []), (115, .iload_n 3, 1, 0, 0, .null, []), (116, .istore_n 3, 1, 0, 0, .null, []),
  (117, .iload 4, 2, 0, 0, .null, []), (119, .iload 6, 2, 0, 0, .null, []), (121, .invokestatic 49, 3, 997, 2, .null, [988, 0, 363, 66, 364]), (124, .istore 4, 2, 0, 0, .null, []), (126, .iinc 5 1, 3, 0, 0, .null, []), (129, .goto (-66), 3, 63, 0, .null, []),
  (132, .iload_n 3, 1, 0, 0, .null, []), (133, .ireturn, 1, 0, 0, .null, [])]
/-- SmallerInTheShopModel first (IIII)I -/
def mp_202 : List (Nat × mm_I) := [(0, .iload_n 1, 1, 0, 0, .null, []), (1, .i2l, 1, 0, 0, .null, []), (2, .lconst 1, 1, 0, 0, .null, []), (3, .ldc2_w 238, 3, 0, 0, .long (4), [1139]), (6, .invokestatic 57, 3, 146, 3, .null, [967, 0, 968, 61]), (9, .ifCond .eq 15, 3, 24, 0, .null, []),
  (12, .iload_n 3, 1, 0, 0, .null, []), (13, .i2l, 1, 0, 0, .null, []), (14, .lconst 1, 1, 0, 0, .null, []), (15, .ldc2_w 238, 3, 0, 0, .long (4), [1139]), (18, .invokestatic 57, 3, 146, 3, .null, [967, 0, 968, 61]), (21, .ifCond .ne 9, 3, 30, 0, .null, []),
  (24, .aload_n 0, 1, 0, 0, .null, []), (25, .iconst (-1), 1, 0, 0, .null, []), (26, .invokevirtual 41, 3, 141, 2, .null, [945, 0, 947, 61, 33]), (29, .ireturn, 1, 0, 0, .null, []), (30, .iload_n 2, 1, 0, 0, .null, []), (31, .i2l, 1, 0, 0, .null, []),
  (32, .lconst 0, 1, 0, 0, .null, []), (33, .ldc2_w 55, 3, 0, 0, .long (3), [984]), (36, .invokestatic 57, 3, 146, 3, .null, [967, 0, 968, 61]), (39, .ifCond .eq 16, 3, 55, 0, .null, []), (42, .iload 4, 2, 0, 0, .null, []), (44, .i2l, 1, 0, 0, .null, []),
  (45, .lconst 0, 1, 0, 0, .null, []), (46, .ldc2_w 55, 3, 0, 0, .long (3), [984]), (49, .invokestatic 57, 3, 146, 3, .null, [967, 0, 968, 61]), (52, .ifCond .ne 10, 3, 62, 0, .null, []), (55, .aload_n 0, 1, 0, 0, .null, []), (56, .bipush (-2), 2, 0, 0, .null, []),
  (58, .invokevirtual 41, 3, 141, 2, .null, [945, 0, 947, 61, 33]), (61, .ireturn, 1, 0, 0, .null, []), (62, .aload_n 0, 1, 0, 0, .null, []), (63, .iload_n 1, 1, 0, 0, .null, []), (64, .iload_n 2, 1, 0, 0, .null, []), (65, .iload_n 3, 1, 0, 0, .null, []),
  (66, .iload 4, 2, 0, 0, .null, []), (68, .invokevirtual 258, 3, 203, 5, .null, [1179, 0, 1181, 61, 48]), (71, .istore 5, 2, 0, 0, .null, []), (73, .aload_n 0, 1, 0, 0, .null, []), (74, .iload_n 3, 1, 0, 0, .null, []), (75, .iload 4, 2, 0, 0, .null, []),
  (77, .iload_n 1, 1, 0, 0, .null, []), (78, .iload_n 2, 1, 0, 0, .null, []), (79, .invokevirtual 258, 3, 203, 5, .null, [1179, 0, 1181, 61, 48]), (82, .istore 6, 2, 0, 0, .null, []), (84, .iload 5, 2, 0, 0, .null, []), (86, .iload 6, 2, 0, 0, .null, []),
  (88, .if_icmp .ne 6, 3, 94, 0, .null, []), (91, .bipush (-9), 2, 0, 0, .null, []), (93, .ireturn, 1, 0, 0, .null, []), (94, .iload 6, 2, 0, 0, .null, []), (96, .bipush (-9), 2, 0, 0, .null, []), (98, .if_icmp .eq 17, 3, 115, 0, .null, []),
  (101, .iload 5, 2, 0, 0, .null, []), (103, .bipush (-9), 2, 0, 0, .null, []), (105, .if_icmp .eq 14, 3, 119, 0, .null, []), (108, .iload 5, 2, 0, 0, .null, []), (110, .iload 6, 2, 0, 0, .null, []), (112, .if_icmp .ge 7, 3, 119, 0, .null, []),
  (115, .iconst 0, 1, 0, 0, .null, []), (116, .goto 4, 3, 120, 0, .null, []), (119, .iconst 1, 1, 0, 0, .null, []), (120, .ireturn, 1, 0, 0, .null, [])]
/-- SmallerInTheShopModel both (IIII)I -/
def mp_203 : List (Nat × mm_I) := [(0, .aload_n 0, 1, 0, 0, .null, []), (1, .getfield 9, 3, 6, 0, .null, [883, 0]), (4, .iload_n 1, 1, 0, 0, .null, []), (5, .invokestatic 132, 3, 150, 2, .null, [981, 0, 982, 61]), (8, .ifCond .ne 6, 3, 14, 0, .null, []), (11, .bipush (-9), 2, 0, 0, .null, []),
  (13, .ireturn, 1, 0, 0, .null, []), (14, .aload_n 0, 1, 0, 0, .null, []), (15, .getfield 9, 3, 6, 0, .null, [883, 0]), (18, .aload_n 0, 1, 0, 0, .null, []), (19, .getfield 18, 3, 6, 2, .null, [885, 0]), (22, .iconst 0, 1, 0, 0, .null, []),
  (23, .aaload, 1, 0, 0, .null, []), (24, .invokestatic 146, 3, 147, 2, .null, [970, 0, 971, 61]), (27, .aload_n 0, 1, 0, 0, .null, []), (28, .aload_n 0, 1, 0, 0, .null, []), (29, .getfield 18, 3, 6, 2, .null, [885, 0]), (32, .iconst 0, 1, 0, 0, .null, []),
  (33, .aaload, 1, 0, 0, .null, []), (34, .iload_n 1, 1, 0, 0, .null, []), (35, .iload_n 2, 1, 0, 0, .null, []), (36, .invokevirtual 136, 3, 152, 4, .null, [989, 0, 991, 61, 38]), (39, .istore 5, 2, 0, 0, .null, []), (41, .aload_n 0, 1, 0, 0, .null, []),
  (42, .getfield 18, 3, 6, 2, .null, [885, 0]), (45, .iconst 0, 1, 0, 0, .null, []), (46, .aaload, 1, 0, 0, .null, []), (47, .iload_n 3, 1, 0, 0, .null, []), (48, .invokestatic 132, 3, 150, 2, .null, [981, 0, 982, 61]), (51, .ifCond .eq 22, 3, 73, 0, .null, []),
  (54, .iload 5, 2, 0, 0, .null, []), (56, .aload_n 0, 1, 0, 0, .null, []), (57, .aload_n 0, 1, 0, 0, .null, []), (58, .getfield 18, 3, 6, 2, .null, [885, 0]), (61, .iconst 0, 1, 0, 0, .null, []), (62, .aaload, 1, 0, 0, .null, []),
  (63, .iload_n 3, 1, 0, 0, .null, []), (64, .iload 4, 2, 0, 0, .null, []), (66, .invokevirtual 136, 3, 152, 4, .null, [989, 0, 991, 61, 38]), (69, .iadd, 1, 0, 0, .null, []), (70, .goto 5, 3, 75, 0, .null, []), (73, .bipush (-9), 2, 0, 0, .null, []),
  (75, .ireturn, 1, 0, 0, .null, [])]
/-- SmallerInTheShopModel hole (II)I -/
def mp_204 : List (Nat × mm_I) := [(0, .iload_n 1, 1, 0, 0, .null, []), (1, .i2l, 1, 0, 0, .null, []), (2, .lconst 0, 1, 0, 0, .null, []), (3, .ldc2_w 171, 3, 0, 0, .long (2), [1082]), (6, .invokestatic 57, 3, 146, 3, .null, [967, 0, 968, 61]), (9, .ifCond .ne 9, 3, 18, 0, .null, []),
  (12, .aload_n 0, 1, 0, 0, .null, []), (13, .iconst (-1), 1, 0, 0, .null, []), (14, .invokevirtual 41, 3, 141, 2, .null, [945, 0, 947, 61, 33]), (17, .ireturn, 1, 0, 0, .null, []), (18, .iload_n 2, 1, 0, 0, .null, []), (19, .i2l, 1, 0, 0, .null, []),
  (20, .lconst 0, 1, 0, 0, .null, []), (21, .lconst 1, 1, 0, 0, .null, []), (22, .invokestatic 57, 3, 146, 3, .null, [967, 0, 968, 61]), (25, .ifCond .ne 10, 3, 35, 0, .null, []), (28, .aload_n 0, 1, 0, 0, .null, []), (29, .bipush (-2), 2, 0, 0, .null, []),
  (31, .invokevirtual 41, 3, 141, 2, .null, [945, 0, 947, 61, 33]), (34, .ireturn, 1, 0, 0, .null, []), (35, .iload_n 2, 1, 0, 0, .null, []), (36, .ifCond .ne 14, 3, 50, 0, .null, []), (39, .aload_n 0, 1, 0, 0, .null, []), (40, .getfield 9, 3, 6, 0, .null, [883, 0]),
  (43, .iload_n 1, 1, 0, 0, .null, []), (44, .invokestatic 249, 3, 200, 2, .null, [1168, 0, 1169, 61]), (47, .goto 14, 3, 61, 0, .null, []), (50, .aload_n 0, 1, 0, 0, .null, []), (51, .getfield 9, 3, 6, 0, .null, [883, 0]), (54, .invokestatic 252, 3, 199, 1, .null, [1165, 0, 1166, 61]),
  (57, .iload_n 1, 1, 0, 0, .null, []), (58, .ishr, 1, 0, 0, .null, []), (59, .iconst 1, 1, 0, 0, .null, []), (60, .iand, 1, 0, 0, .null, []), (61, .ireturn, 1, 0, 0, .null, [])]
/-- SmallerInTheShopModel weakest (I)I -/
def mp_205 : List (Nat × mm_I) := [(0, .iload_n 1, 1, 0, 0, .null, []), (1, .i2l, 1, 0, 0, .null, []), (2, .lconst 0, 1, 0, 0, .null, []), (3, .ldc2_w 171, 3, 0, 0, .long (2), [1082]), (6, .invokestatic 57, 3, 146, 3, .null, [967, 0, 968, 61]), (9, .ifCond .ne 10, 3, 19, 0, .null, []),
  (12, .aload_n 0, 1, 0, 0, .null, []), (13, .bipush (-2), 2, 0, 0, .null, []), (15, .invokevirtual 41, 3, 141, 2, .null, [945, 0, 947, 61, 33]), (18, .ireturn, 1, 0, 0, .null, []), (19, .iconst 0, 1, 0, 0, .null, []), (20, .istore_n 2, 1, 0, 0, .null, []),
  (21, .iconst 1, 1, 0, 0, .null, []), (22, .istore_n 3, 1, 0, 0, .null, []), (23, .iload_n 3, 1, 0, 0, .null, []), (24, .iconst 3, 1, 0, 0, .null, []), (25, .if_icmp .ge 34, 3, 59, 0, .null, []), (28, .aload_n 0, 1, 0, 0, .null, []),
  (29, .getfield 9, 3, 6, 0, .null, [883, 0]), (32, .iload_n 3, 1, 0, 0, .null, []), (33, .invokestatic 249, 3, 200, 2, .null, [1168, 0, 1169, 61]), (36, .aload_n 0, 1, 0, 0, .null, []), (37, .getfield 9, 3, 6, 0, .null, [883, 0]), (40, .iload_n 2, 1, 0, 0, .null, []),
  (41, .invokestatic 249, 3, 200, 2, .null, [1168, 0, 1169, 61]), (44, .if_icmp .le 7, 3, 51, 0, .null, []), (47, .iload_n 3, 1, 0, 0, .null, []), (48, .goto 4, 3, 52, 0, .null, []), (51, .iload_n 2, 1, 0, 0, .null, []), (52, .istore_n 2, 1, 0, 0, .null, []),
  (53, .iinc 3 1, 3, 0, 0, .null, []), (56, .goto (-33), 3, 23, 0, .null, []), (59, .iload_n 1, 1, 0, 0, .null, []), (60, .ifCond .ne 7, 3, 67, 0, .null, []), (63, .iload_n 2, 1, 0, 0, .null, []), (64, .goto 26, 3, 90, 0, .null, []),
  (67, .iload_n 1, 1, 0, 0, .null, []), (68, .iconst 1, 1, 0, 0, .null, []), (69, .if_icmp .ne 14, 3, 83, 0, .null, []), (72, .aload_n 0, 1, 0, 0, .null, []), (73, .getfield 9, 3, 6, 0, .null, [883, 0]), (76, .iload_n 2, 1, 0, 0, .null, []),
  (77, .invokestatic 249, 3, 200, 2, .null, [1168, 0, 1169, 61]), (80, .goto 10, 3, 90, 0, .null, []), (83, .aload_n 0, 1, 0, 0, .null, []), (84, .getfield 9, 3, 6, 0, .null, [883, 0]), (87, .invokestatic 252, 3, 199, 1, .null, [1165, 0, 1166, 61]), (90, .ireturn, 1, 0, 0, .null, [])]
/-- SmallerInTheShopModel wind (II)J -/
def mp_206 : List (Nat × mm_I) := [(0, .iload_n 1, 1, 0, 0, .null, []), (1, .i2l, 1, 0, 0, .null, []), (2, .ldc2_w 171, 3, 0, 0, .long (2), [1082]), (5, .ldc2_w 261, 3, 0, 0, .long (20), [1195]), (8, .invokestatic 57, 3, 146, 3, .null, [967, 0, 968, 61]), (11, .ifCond .ne 20, 3, 31, 0, .null, []),
  (14, .aload_n 0, 1, 0, 0, .null, []), (15, .iload_n 1, 1, 0, 0, .null, []), (16, .iconst 2, 1, 0, 0, .null, []), (17, .if_icmp .ge 8, 3, 25, 0, .null, []), (20, .bipush (-4), 2, 0, 0, .null, []), (22, .goto 5, 3, 27, 0, .null, []),
  (25, .bipush (-6), 2, 0, 0, .null, []), (27, .invokevirtual 263, 3, 207, 2, .null, [1196, 0, 1198, 61, 49]), (30, .lreturn, 1, 0, 0, .null, []), (31, .aload_n 0, 1, 0, 0, .null, []), (32, .getfield 242, 3, 6, 6, .null, [889, 0]), (35, .iconst 4, 1, 0, 0, .null, []),
  (36, .if_icmp .gt 11, 3, 47, 0, .null, []), (39, .aload_n 0, 1, 0, 0, .null, []), (40, .iconst 0, 1, 0, 0, .null, []), (41, .invokevirtual 267, 3, 208, 2, .null, [1201, 0, 1203, 61, 50]), (44, .ifCond .lt 10, 3, 54, 0, .null, []), (47, .aload_n 0, 1, 0, 0, .null, []),
  (48, .bipush (-3), 2, 0, 0, .null, []), (50, .invokevirtual 263, 3, 207, 2, .null, [1196, 0, 1198, 61, 49]), (53, .lreturn, 1, 0, 0, .null, []), (54, .iload_n 2, 1, 0, 0, .null, []), (55, .i2l, 1, 0, 0, .null, []), (56, .lconst 0, 1, 0, 0, .null, []),
  (57, .lconst 1, 1, 0, 0, .null, []), (58, .invokestatic 57, 3, 146, 3, .null, [967, 0, 968, 61]), (61, .ifCond .ne 10, 3, 71, 0, .null, []), (64, .aload_n 0, 1, 0, 0, .null, []), (65, .bipush (-2), 2, 0, 0, .null, []), (67, .invokevirtual 263, 3, 207, 2, .null, [1196, 0, 1198, 61, 49]),
  (70, .lreturn, 1, 0, 0, .null, []), (71, .lconst 0, 1, 0, 0, .null, []), (72, .lstore_n 3, 1, 0, 0, .null, []), (73, .lconst 1, 1, 0, 0, .null, []), (74, .lstore 5, 2, 0, 0, .null, []), (76, .iconst 0, 1, 0, 0, .null, []),
  (77, .istore 7, 2, 0, 0, .null, []), (79, .iload 7, 2, 0, 0, .null, []), (81, .aload_n 0, 1, 0, 0, .null, []), (82, .getfield 242, 3, 6, 6, .null, [889, 0]), (85, .if_icmp .ge 16, 3, 101, 0, .null, []), (88, .lload 5, 2, 0, 0, .null, []),
  (90, .iload_n 1, 1, 0, 0, .null, []), (91, .i2l, 1, 0, 0, .null, []), (92, .lmul, 1, 0, 0, .null, []), (93, .lstore 5, 2, 0, 0, .null, []), (95, .iinc 7 1, 3, 0, 0, .null, []), (98, .goto (-19), 3, 79, 0, .null, []),
  (101, .iconst 0, 1, 0, 0, .null, []), (102, .istore 7, 2, 0, 0, .null, []), (104, .iload 7, 2, 0, 0, .null, []), (106, .iconst 1, 1, 0, 0, .null, []), (107, .aload_n 0, 1, 0, 0, .null, []), (108, .getfield 242, 3, 6, 6, .null, [889, 0]),
  (111, .ishl, 1, 0, 0, .null, []), (112, .if_icmp .ge 83, 3, 195, 0, .null, []), (115, .aload_n 0, 1, 0, 0, .null, []), (116, .iload 7, 2, 0, 0, .null, []), (118, .invokevirtual 267, 3, 208, 2, .null, [1201, 0, 1203, 61, 50]), (121, .istore 8, 2, 0, 0, .null, []),
  (123, .lconst 1, 1, 0, 0, .null, []), (124, .lstore 9, 2, 0, 0, .null, []), (126, .iconst 0, 1, 0, 0, .null, []), (127, .istore 11, 2, 0, 0, .null, []), (129, .iload 11, 2, 0, 0, .null, []), (131, .aload_n 0, 1, 0, 0, .null, []),
  (132, .getfield 242, 3, 6, 6, .null, [889, 0]), (135, .if_icmp .ge 33, 3, 168, 0, .null, []), (138, .lload 9, 2, 0, 0, .null, []), (140, .iload 7, 2, 0, 0, .null, []), (142, .iload 11, 2, 0, 0, .null, []), (144, .ishr, 1, 0, 0, .null, []),
  (145, .iconst 1, 1, 0, 0, .null, []), (146, .iand, 1, 0, 0, .null, []), (147, .iconst 1, 1, 0, 0, .null, []), (148, .if_icmp .ne 7, 3, 155, 0, .null, []), (151, .lconst 1, 1, 0, 0, .null, []), (152, .goto 7, 3, 159, 0, .null, []),
  (155, .iload_n 1, 1, 0, 0, .null, []), (156, .i2l, 1, 0, 0, .null, []), (157, .lconst 1, 1, 0, 0, .null, []), (158, .lsub, 1, 0, 0, .null, []), (159, .lmul, 1, 0, 0, .null, []), (160, .lstore 9, 2, 0, 0, .null, []),
  (162, .iinc 11 1, 3, 0, 0, .null, []), (165, .goto (-36), 3, 129, 0, .null, []), (168, .lload_n 3, 1, 0, 0, .null, []), (169, .aload_n 0, 1, 0, 0, .null, []), (170, .getfield 18, 3, 6, 2, .null, [885, 0]), (173, .iconst 0, 1, 0, 0, .null, []),
  (174, .aaload, 1, 0, 0, .null, []), (175, .invokestatic 183, 3, 183, 1, .null, [1100, 0, 1101, 61]), (178, .ifCond .eq 8, 3, 186, 0, .null, []), (181, .lload 9, 2, 0, 0, .null, []), (183, .goto 4, 3, 187, 0, .null, []), (186, .lconst 0, 1, 0, 0, .null, []),
  (187, .ladd, 1, 0, 0, .null, []), (188, .lstore_n 3, 1, 0, 0, .null, []), (189, .iinc 7 1, 3, 0, 0, .null, []), (192, .goto (-88), 3, 104, 0, .null, []), (195, .lload_n 3, 1, 0, 0, .null, []), (196, .lload 5, 2, 0, 0, .null, []),
  (198, .iload_n 2, 1, 0, 0, .null, []), (199, .invokestatic 270, 3, 209, 3, .null, [1205, 0, 1206, 61]), (202, .lreturn, 1, 0, 0, .null, [])]
/-- SmallerInTheShopModel refusedLong (I)J -/
def mp_207 : List (Nat × mm_I) := [(0, .ldc2_w 39, 3, 0, 0, .long (4000000000000000000), [1200]), (3, .aload_n 0, 1, 0, 0, .null, []), (4, .iload_n 1, 1, 0, 0, .null, []), (5, .invokevirtual 41, 3, 141, 2, .null, [945, 0, 947, 61, 33]), (8, .i2l, 1, 0, 0, .null, []), (9, .lsub, 1, 0, 0, .null, []),
  (10, .lreturn, 1, 0, 0, .null, [])]
/-- SmallerInTheShopModel goes (I)I -/
def mp_208 : List (Nat × mm_I) := [(0, .aload_n 0, 1, 0, 0, .null, []), (1, .getfield 9, 3, 6, 0, .null, [883, 0]), (4, .aload_n 0, 1, 0, 0, .null, []), (5, .getfield 18, 3, 6, 2, .null, [885, 0]), (8, .iconst 0, 1, 0, 0, .null, []), (9, .aaload, 1, 0, 0, .null, []),
  (10, .invokestatic 146, 3, 147, 2, .null, [970, 0, 971, 61]), (13, .iconst 0, 1, 0, 0, .null, []), (14, .istore_n 2, 1, 0, 0, .null, []), (15, .iload_n 2, 1, 0, 0, .null, []), (16, .aload_n 0, 1, 0, 0, .null, []), (17, .getfield 242, 3, 6, 6, .null, [889, 0]),
  (20, .if_icmp .ge 84, 3, 104, 0, .null, []), (23, .aload_n 0, 1, 0, 0, .null, []), (24, .getfield 24, 3, 6, 5, .null, [888, 0]), (27, .iload_n 2, 1, 0, 0, .null, []), (28, .iaload, 1, 0, 0, .null, []), (29, .bipush 10, 2, 0, 0, .null, []),
  (31, .irem, 1, 0, 0, .null, []), (32, .istore_n 3, 1, 0, 0, .null, []), (33, .aload_n 0, 1, 0, 0, .null, []), (34, .getfield 18, 3, 6, 2, .null, [885, 0]), (37, .iconst 0, 1, 0, 0, .null, []), (38, .aaload, 1, 0, 0, .null, []),
  (39, .aload_n 0, 1, 0, 0, .null, []), (40, .getfield 24, 3, 6, 5, .null, [888, 0]), (43, .iload_n 2, 1, 0, 0, .null, []), (44, .iaload, 1, 0, 0, .null, []), (45, .bipush 10, 2, 0, 0, .null, []), (47, .idiv, 1, 0, 0, .null, []),
  (48, .invokestatic 132, 3, 150, 2, .null, [981, 0, 982, 61]), (51, .ifCond .eq 8, 3, 59, 0, .null, []), (54, .iload_n 3, 1, 0, 0, .null, []), (55, .iconst 3, 1, 0, 0, .null, []), (56, .if_icmp .le 5, 3, 61, 0, .null, []), (59, .iload_n 2, 1, 0, 0, .null, []),
  (60, .ireturn, 1, 0, 0, .null, []), (61, .aload_n 0, 1, 0, 0, .null, []), (62, .aload_n 0, 1, 0, 0, .null, []), (63, .getfield 18, 3, 6, 2, .null, [885, 0]), (66, .iconst 0, 1, 0, 0, .null, []), (67, .aaload, 1, 0, 0, .null, []),
  (68, .aload_n 0, 1, 0, 0, .null, []), (69, .getfield 24, 3, 6, 5, .null, [888, 0]), (72, .iload_n 2, 1, 0, 0, .null, []), (73, .iaload, 1, 0, 0, .null, []), (74, .bipush 10, 2, 0, 0, .null, []), (76, .idiv, 1, 0, 0, .null, []),
  (77, .iload_n 1, 1, 0, 0, .null, []), (78, .iload_n 2, 1, 0, 0, .null, []), (79, .ishr, 1, 0, 0, .null, []), (80, .iconst 1, 1, 0, 0, .null, []), (81, .iand, 1, 0, 0, .null, []), (82, .iconst 1, 1, 0, 0, .null, []),
  (83, .if_icmp .ne 9, 3, 92, 0, .null, []), (86, .iload_n 3, 1, 0, 0, .null, []), (87, .iconst 1, 1, 0, 0, .null, []), (88, .ixor, 1, 0, 0, .null, []), (89, .goto 4, 3, 93, 0, .null, []), (92, .iload_n 3, 1, 0, 0, .null, []),
  (93, .invokevirtual 136, 3, 152, 4, .null, [989, 0, 991, 61, 38]), (96, .istore 4, 2, 0, 0, .null, []), (98, .iinc 2 1, 3, 0, 0, .null, []), (101, .goto (-86), 3, 15, 0, .null, []), (104, .bipush (-9), 2, 0, 0, .null, []), (106, .ireturn, 1, 0, 0, .null, [])]
/-- SmallerInTheShopModel lowest (JJI)J -/
def mp_209 : List (Nat × mm_I) := [(0, .lload_n 0, 1, 0, 0, .null, []), (1, .lstore 5, 2, 0, 0, .null, []), (3, .lload_n 2, 1, 0, 0, .null, []), (4, .lstore 7, 2, 0, 0, .null, []), (6, .lload 7, 2, 0, 0, .null, []), (8, .lconst 0, 1, 0, 0, .null, []),
  (9, .lcmp, 1, 0, 0, .null, []), (10, .ifCond .eq 21, 3, 31, 0, .null, []), (13, .lload 5, 2, 0, 0, .null, []), (15, .lload 7, 2, 0, 0, .null, []), (17, .lrem, 1, 0, 0, .null, []), (18, .lstore 9, 2, 0, 0, .null, []),
  (20, .lload 7, 2, 0, 0, .null, []), (22, .lstore 5, 2, 0, 0, .null, []), (24, .lload 9, 2, 0, 0, .null, []), (26, .lstore 7, 2, 0, 0, .null, []), (28, .goto (-22), 3, 6, 0, .null, []), (31, .iload 4, 2, 0, 0, .null, []),
  (33, .ifCond .ne 7, 3, 40, 0, .null, []), (36, .lload_n 0, 1, 0, 0, .null, []), (37, .goto 4, 3, 41, 0, .null, []), (40, .lload_n 2, 1, 0, 0, .null, []), (41, .lload 5, 2, 0, 0, .null, []), (43, .ldiv, 1, 0, 0, .null, []),
  (44, .lreturn, 1, 0, 0, .null, [])]
/-- SmallerInTheShopModel mean (I)J -/
def mp_210 : List (Nat × mm_I) := [(0, .iload_n 1, 1, 0, 0, .null, []), (1, .i2l, 1, 0, 0, .null, []), (2, .lconst 0, 1, 0, 0, .null, []), (3, .lconst 1, 1, 0, 0, .null, []), (4, .invokestatic 57, 3, 146, 3, .null, [967, 0, 968, 61]), (7, .ifCond .eq 21, 3, 28, 0, .null, []),
  (10, .aload_n 0, 1, 0, 0, .null, []), (11, .getfield 9, 3, 6, 0, .null, [883, 0]), (14, .invokestatic 173, 3, 178, 1, .null, [1083, 0, 1084, 61]), (17, .i2l, 1, 0, 0, .null, []), (18, .ldc2_w 274, 3, 0, 0, .long (10), [1212]), (21, .iload_n 1, 1, 0, 0, .null, []),
  (22, .invokestatic 270, 3, 209, 3, .null, [1205, 0, 1206, 61]), (25, .goto 9, 3, 34, 0, .null, []), (28, .aload_n 0, 1, 0, 0, .null, []), (29, .bipush (-2), 2, 0, 0, .null, []), (31, .invokevirtual 263, 3, 207, 2, .null, [1196, 0, 1198, 61, 49]), (34, .lreturn, 1, 0, 0, .null, [])]
/-- SmallerInTheShopModel whatIs (II)I -/
def mp_211 : List (Nat × mm_I) := [(0, .iload_n 1, 1, 0, 0, .null, []), (1, .invokestatic 157, 3, 166, 1, .null, [1035, 0, 1036, 61]), (4, .ifCond .ne 9, 3, 13, 0, .null, []), (7, .aload_n 0, 1, 0, 0, .null, []), (8, .iconst (-1), 1, 0, 0, .null, []), (9, .invokevirtual 41, 3, 141, 2, .null, [945, 0, 947, 61, 33]),
  (12, .ireturn, 1, 0, 0, .null, []), (13, .iload_n 2, 1, 0, 0, .null, []), (14, .i2l, 1, 0, 0, .null, []), (15, .lconst 0, 1, 0, 0, .null, []), (16, .lconst 1, 1, 0, 0, .null, []), (17, .invokestatic 57, 3, 146, 3, .null, [967, 0, 968, 61]),
  (20, .ifCond .ne 10, 3, 30, 0, .null, []), (23, .aload_n 0, 1, 0, 0, .null, []), (24, .bipush (-2), 2, 0, 0, .null, []), (26, .invokevirtual 41, 3, 141, 2, .null, [945, 0, 947, 61, 33]), (29, .ireturn, 1, 0, 0, .null, []), (30, .aload_n 0, 1, 0, 0, .null, []),
  (31, .getfield 242, 3, 6, 6, .null, [889, 0]), (34, .iconst 2, 1, 0, 0, .null, []), (35, .irem, 1, 0, 0, .null, []), (36, .iconst 1, 1, 0, 0, .null, []), (37, .if_icmp .ne 10, 3, 47, 0, .null, []), (40, .aload_n 0, 1, 0, 0, .null, []),
  (41, .bipush (-3), 2, 0, 0, .null, []), (43, .invokevirtual 41, 3, 141, 2, .null, [945, 0, 947, 61, 33]), (46, .ireturn, 1, 0, 0, .null, []), (47, .iconst 0, 1, 0, 0, .null, []), (48, .istore_n 3, 1, 0, 0, .null, []), (49, .iconst 0, 1, 0, 0, .null, []),
  (50, .istore 4, 2, 0, 0, .null, []), (52, .iload 4, 2, 0, 0, .null, []), (54, .iload_n 2, 1, 0, 0, .null, []), (55, .ifCond .ne 8, 3, 63, 0, .null, []), (58, .bipush 6, 2, 0, 0, .null, []), (60, .goto 5, 3, 65, 0, .null, []),
  (63, .bipush 10, 2, 0, 0, .null, []), (65, .if_icmp .ge 63, 3, 128, 0, .null, []), (68, .iload_n 2, 1, 0, 0, .null, []), (69, .ifCond .ne 21, 3, 90, 0, .null, []), (72, .aload_n 0, 1, 0, 0, .null, []), (73, .iload 4, 2, 0, 0, .null, []),
  (75, .aload_n 0, 1, 0, 0, .null, []), (76, .getfield 9, 3, 6, 0, .null, [883, 0]), (79, .bipush 10, 2, 0, 0, .null, []), (81, .iload_n 1, 1, 0, 0, .null, []), (82, .iadd, 1, 0, 0, .null, []), (83, .iaload, 1, 0, 0, .null, []),
  (84, .invokevirtual 276, 3, 212, 3, .null, [1217, 0, 1219, 61, 51]), (87, .goto 17, 3, 104, 0, .null, []), (90, .aload_n 0, 1, 0, 0, .null, []), (91, .aload_n 0, 1, 0, 0, .null, []), (92, .getfield 9, 3, 6, 0, .null, [883, 0]), (95, .iconst 0, 1, 0, 0, .null, []),
  (96, .iload_n 1, 1, 0, 0, .null, []), (97, .iadd, 1, 0, 0, .null, []), (98, .iaload, 1, 0, 0, .null, []), (99, .iload 4, 2, 0, 0, .null, []), (101, .invokevirtual 276, 3, 212, 3, .null, [1217, 0, 1219, 61, 51]), (104, .istore 5, 2, 0, 0, .null, []),
  (106, .iload_n 3, 1, 0, 0, .null, []), (107, .iload 5, 2, 0, 0, .null, []), (109, .ifCond .eq 10, 3, 119, 0, .null, []), (112, .iconst 1, 1, 0, 0, .null, []), (113, .iload 4, 2, 0, 0, .null, []), (115, .ishl, 1, 0, 0, .null, []),
  (116, .goto 4, 3, 120, 0, .null, []), (119, .iconst 0, 1, 0, 0, .null, []), (120, .ior, 1, 0, 0, .null, []), (121, .istore_n 3, 1, 0, 0, .null, []), (122, .iinc 4 1, 3, 0, 0, .null, []), (125, .goto (-73), 3, 52, 0, .null, []),
  (128, .iload_n 3, 1, 0, 0, .null, []), (129, .ireturn, 1, 0, 0, .null, [])]
/-- SmallerInTheShopModel isSo (II)Z -/
def mp_212 : List (Nat × mm_I) := [(0, .iconst 0, 1, 0, 0, .null, []), (1, .istore_n 3, 1, 0, 0, .null, []), (2, .iload_n 3, 1, 0, 0, .null, []), (3, .aload_n 0, 1, 0, 0, .null, []), (4, .getfield 242, 3, 6, 6, .null, [889, 0]), (7, .if_icmp .ge 34, 3, 41, 0, .null, []),
  (10, .iload_n 1, 1, 0, 0, .null, []), (11, .iload_n 2, 1, 0, 0, .null, []), (12, .aload_n 0, 1, 0, 0, .null, []), (13, .getfield 24, 3, 6, 5, .null, [888, 0]), (16, .iload_n 3, 1, 0, 0, .null, []), (17, .iaload, 1, 0, 0, .null, []),
  (18, .iconst 1, 1, 0, 0, .null, []), (19, .invokestatic 45, 3, 159, 4, .null, [1012, 0, 1013, 61]), (22, .aload_n 0, 1, 0, 0, .null, []), (23, .getfield 24, 3, 6, 5, .null, [888, 0]), (26, .iload_n 3, 1, 0, 0, .null, []), (27, .iconst 1, 1, 0, 0, .null, []),
  (28, .iadd, 1, 0, 0, .null, []), (29, .iaload, 1, 0, 0, .null, []), (30, .if_icmp .eq 5, 3, 35, 0, .null, []), (33, .iconst 0, 1, 0, 0, .null, []), (34, .ireturn, 1, 0, 0, .null, []), (35, .iinc 3 2, 3, 0, 0, .null, []),
  (38, .goto (-36), 3, 2, 0, .null, []), (41, .iconst 1, 1, 0, 0, .null, []), (42, .ireturn, 1, 0, 0, .null, [])]
/-- SmallerInTheShopModel row (I)I -/
def mp_213 : List (Nat × mm_I) := [(0, .iload_n 1, 1, 0, 0, .null, []), (1, .ifCond .ge 10, 3, 11, 0, .null, []), (4, .aload_n 0, 1, 0, 0, .null, []), (5, .bipush (-4), 2, 0, 0, .null, []), (7, .invokevirtual 41, 3, 141, 2, .null, [945, 0, 947, 61, 33]), (10, .ireturn, 1, 0, 0, .null, []),
  (11, .iload_n 1, 1, 0, 0, .null, []), (12, .bipush 99, 2, 0, 0, .null, []), (14, .if_icmp .gt 12, 3, 26, 0, .null, []), (17, .aload_n 0, 1, 0, 0, .null, []), (18, .getfield 242, 3, 6, 6, .null, [889, 0]), (21, .bipush 16, 2, 0, 0, .null, []),
  (23, .if_icmp .ne 10, 3, 33, 0, .null, []), (26, .aload_n 0, 1, 0, 0, .null, []), (27, .bipush (-6), 2, 0, 0, .null, []), (29, .invokevirtual 41, 3, 141, 2, .null, [945, 0, 947, 61, 33]), (32, .ireturn, 1, 0, 0, .null, []), (33, .aload_n 0, 1, 0, 0, .null, []),
  (34, .getfield 24, 3, 6, 5, .null, [888, 0]), (37, .aload_n 0, 1, 0, 0, .null, []), (38, .getfield 242, 3, 6, 6, .null, [889, 0]), (41, .iload_n 1, 1, 0, 0, .null, []), (42, .iastore, 1, 0, 0, .null, []), (43, .aload_n 0, 1, 0, 0, .null, []),
  (44, .dup, 1, 0, 0, .null, []), (45, .getfield 242, 3, 6, 6, .null, [889, 0]), (48, .iconst 1, 1, 0, 0, .null, []), (49, .iadd, 1, 0, 0, .null, []), (50, .putfield 242, 3, 6, 6, .null, [889, 0]), (53, .aload_n 0, 1, 0, 0, .null, []),
  (54, .getfield 242, 3, 6, 6, .null, [889, 0]), (57, .ireturn, 1, 0, 0, .null, [])]
/-- SmallerInTheShopModel judge ()I -/
def mp_214 : List (Nat × mm_I) := [(0, .aload_n 0, 1, 0, 0, .null, []), (1, .iconst 0, 1, 0, 0, .null, []), (2, .invokevirtual 267, 3, 208, 2, .null, [1201, 0, 1203, 61, 50]), (5, .istore_n 1, 1, 0, 0, .null, []), (6, .aload_n 0, 1, 0, 0, .null, []), (7, .iconst 0, 1, 0, 0, .null, []),
  (8, .putfield 242, 3, 6, 6, .null, [889, 0]), (11, .iload_n 1, 1, 0, 0, .null, []), (12, .ireturn, 1, 0, 0, .null, [])]
/-- SmallerInTheShopModel clear ()I -/
def mp_215 : List (Nat × mm_I) := [(0, .aload_n 0, 1, 0, 0, .null, []), (1, .getfield 242, 3, 6, 6, .null, [889, 0]), (4, .istore_n 1, 1, 0, 0, .null, []), (5, .aload_n 0, 1, 0, 0, .null, []), (6, .iconst 0, 1, 0, 0, .null, []), (7, .putfield 242, 3, 6, 6, .null, [889, 0]),
  (10, .iload_n 1, 1, 0, 0, .null, []), (11, .ireturn, 1, 0, 0, .null, [])]
/-- SmallerInTheShopModel lots (III)I -/
def mp_216 : List (Nat × mm_I) := [(0, .iload_n 1, 1, 0, 0, .null, []), (1, .i2l, 1, 0, 0, .null, []), (2, .lconst 1, 1, 0, 0, .null, []), (3, .ldc2_w 261, 3, 0, 0, .long (20), [1195]), (6, .invokestatic 57, 3, 146, 3, .null, [967, 0, 968, 61]), (9, .ifCond .ne 20, 3, 29, 0, .null, []),
  (12, .aload_n 0, 1, 0, 0, .null, []), (13, .iload_n 1, 1, 0, 0, .null, []), (14, .iconst 1, 1, 0, 0, .null, []), (15, .if_icmp .ge 8, 3, 23, 0, .null, []), (18, .bipush (-4), 2, 0, 0, .null, []), (20, .goto 5, 3, 25, 0, .null, []),
  (23, .bipush (-6), 2, 0, 0, .null, []), (25, .invokevirtual 41, 3, 141, 2, .null, [945, 0, 947, 61, 33]), (28, .ireturn, 1, 0, 0, .null, []), (29, .iload_n 3, 1, 0, 0, .null, []), (30, .i2l, 1, 0, 0, .null, []), (31, .lconst 0, 1, 0, 0, .null, []),
  (32, .lconst 1, 1, 0, 0, .null, []), (33, .invokestatic 57, 3, 146, 3, .null, [967, 0, 968, 61]), (36, .ifCond .ne 10, 3, 46, 0, .null, []), (39, .aload_n 0, 1, 0, 0, .null, []), (40, .bipush (-2), 2, 0, 0, .null, []), (42, .invokevirtual 41, 3, 141, 2, .null, [945, 0, 947, 61, 33]),
  (45, .ireturn, 1, 0, 0, .null, []), (46, .aload_n 0, 1, 0, 0, .null, []), (47, .iload_n 2, 1, 0, 0, .null, []), (48, .putfield 280, 3, 6, 18, .null, [901, 0]), (51, .iconst 0, 1, 0, 0, .null, []), (52, .istore 4, 2, 0, 0, .null, []),
  (54, .iconst 0, 1, 0, 0, .null, []), (55, .istore 5, 2, 0, 0, .null, []), (57, .iconst 0, 1, 0, 0, .null, []), (58, .istore 6, 2, 0, 0, .null, []), (60, .iload 6, 2, 0, 0, .null, []), (62, .iload_n 1, 1, 0, 0, .null, []),
  (63, .if_icmp .ge 40, 3, 103, 0, .null, []), (66, .iload 4, 2, 0, 0, .null, []), (68, .aload_n 0, 1, 0, 0, .null, []), (69, .invokevirtual 289, 3, 217, 1, .null, [1237, 0, 1239, 61, 52]), (72, .iadd, 1, 0, 0, .null, []), (73, .istore 4, 2, 0, 0, .null, []),
  (75, .iload 5, 2, 0, 0, .null, []), (77, .aload_n 0, 1, 0, 0, .null, []), (78, .getfield 18, 3, 6, 2, .null, [885, 0]), (81, .iconst 0, 1, 0, 0, .null, []), (82, .aaload, 1, 0, 0, .null, []), (83, .invokestatic 183, 3, 183, 1, .null, [1100, 0, 1101, 61]),
  (86, .ifCond .eq 7, 3, 93, 0, .null, []), (89, .iconst 1, 1, 0, 0, .null, []), (90, .goto 4, 3, 94, 0, .null, []), (93, .iconst 0, 1, 0, 0, .null, []), (94, .iadd, 1, 0, 0, .null, []), (95, .istore 5, 2, 0, 0, .null, []),
  (97, .iinc 6 1, 3, 0, 0, .null, []), (100, .goto (-40), 3, 60, 0, .null, []), (103, .iload_n 3, 1, 0, 0, .null, []), (104, .ifCond .ne 8, 3, 112, 0, .null, []), (107, .iload 4, 2, 0, 0, .null, []), (109, .goto 5, 3, 114, 0, .null, []),
  (112, .iload 5, 2, 0, 0, .null, []), (114, .ireturn, 1, 0, 0, .null, [])]
/-- SmallerInTheShopModel shutsByLot ()I -/
def mp_217 : List (Nat × mm_I) := [(0, .aload_n 0, 1, 0, 0, .null, []), (1, .getfield 9, 3, 6, 0, .null, [883, 0]), (4, .aload_n 0, 1, 0, 0, .null, []), (5, .getfield 18, 3, 6, 2, .null, [885, 0]), (8, .iconst 0, 1, 0, 0, .null, []), (9, .aaload, 1, 0, 0, .null, []),
  (10, .invokestatic 146, 3, 147, 2, .null, [970, 0, 971, 61]), (13, .iconst 0, 1, 0, 0, .null, []), (14, .istore_n 1, 1, 0, 0, .null, []), (15, .aload_n 0, 1, 0, 0, .null, []), (16, .getfield 18, 3, 6, 2, .null, [885, 0]), (19, .iconst 0, 1, 0, 0, .null, []),
  (20, .aaload, 1, 0, 0, .null, []), (21, .invokestatic 197, 3, 189, 1, .null, [1123, 0, 1124, 61]), (24, .ifCond .ne 83, 3, 107, 0, .null, []), (27, .aload_n 0, 1, 0, 0, .null, []), (28, .getfield 18, 3, 6, 2, .null, [885, 0]), (31, .iconst 0, 1, 0, 0, .null, []),
  (32, .aaload, 1, 0, 0, .null, []), (33, .iconst 0, 1, 0, 0, .null, []), (34, .invokestatic 61, 3, 151, 2, .null, [985, 0, 986, 61]), (37, .iconst 1, 1, 0, 0, .null, []), (38, .isub, 1, 0, 0, .null, []), (39, .aload_n 0, 1, 0, 0, .null, []),
  (40, .getfield 18, 3, 6, 2, .null, [885, 0]), (43, .iconst 0, 1, 0, 0, .null, []), (44, .aaload, 1, 0, 0, .null, []), (45, .iconst 1, 1, 0, 0, .null, []), (46, .invokestatic 61, 3, 151, 2, .null, [985, 0, 986, 61]), (49, .iconst 1, 1, 0, 0, .null, []),
  (50, .isub, 1, 0, 0, .null, []), (51, .iadd, 1, 0, 0, .null, []), (52, .istore_n 2, 1, 0, 0, .null, []), (53, .aload_n 0, 1, 0, 0, .null, []), (54, .iload_n 2, 1, 0, 0, .null, []), (55, .invokevirtual 286, 3, 218, 2, .null, [1241, 0, 1243, 61, 53]),
  (58, .istore_n 3, 1, 0, 0, .null, []), (59, .iload_n 3, 1, 0, 0, .null, []), (60, .aload_n 0, 1, 0, 0, .null, []), (61, .getfield 18, 3, 6, 2, .null, [885, 0]), (64, .iconst 0, 1, 0, 0, .null, []), (65, .aaload, 1, 0, 0, .null, []),
  (66, .iconst 0, 1, 0, 0, .null, []), (67, .invokestatic 61, 3, 151, 2, .null, [985, 0, 986, 61]), (70, .iconst 1, 1, 0, 0, .null, []), (71, .isub, 1, 0, 0, .null, []), (72, .if_icmp .ge 9, 3, 81, 0, .null, []), (75, .iload_n 3, 1, 0, 0, .null, []),
  (76, .iconst 1, 1, 0, 0, .null, []), (77, .iadd, 1, 0, 0, .null, []), (78, .goto 4, 3, 82, 0, .null, []), (81, .iconst 4, 1, 0, 0, .null, []), (82, .istore 4, 2, 0, 0, .null, []), (84, .iload_n 1, 1, 0, 0, .null, []),
  (85, .aload_n 0, 1, 0, 0, .null, []), (86, .aload_n 0, 1, 0, 0, .null, []), (87, .getfield 18, 3, 6, 2, .null, [885, 0]), (90, .iconst 0, 1, 0, 0, .null, []), (91, .aaload, 1, 0, 0, .null, []), (92, .iload 4, 2, 0, 0, .null, []),
  (94, .aload_n 0, 1, 0, 0, .null, []), (95, .iconst 4, 1, 0, 0, .null, []), (96, .invokevirtual 286, 3, 218, 2, .null, [1241, 0, 1243, 61, 53]), (99, .invokevirtual 136, 3, 152, 4, .null, [989, 0, 991, 61, 38]), (102, .iadd, 1, 0, 0, .null, []), (103, .istore_n 1, 1, 0, 0, .null, []),
  (104, .goto (-89), 3, 15, 0, .null, []), (107, .iload_n 1, 1, 0, 0, .null, []), (108, .ireturn, 1, 0, 0, .null, [])]
/-- SmallerInTheShopModel draw (I)I -/
def mp_218 : List (Nat × mm_I) := [(0, .aload_n 0, 1, 0, 0, .null, []), (1, .aload_n 0, 1, 0, 0, .null, []), (2, .getfield 280, 3, 6, 18, .null, [901, 0]), (5, .ldc_w 283, 3, 0, 0, .int (1664525), [1245]), (8, .imul, 1, 0, 0, .null, []), (9, .ldc_w 284, 3, 0, 0, .int (1013904223), [1246]),
  (12, .iadd, 1, 0, 0, .null, []), (13, .putfield 280, 3, 6, 18, .null, [901, 0]), (16, .aload_n 0, 1, 0, 0, .null, []), (17, .getfield 280, 3, 6, 18, .null, [901, 0]), (20, .ldc_w 285, 3, 0, 0, .int (2147483647), [1247]), (23, .iand, 1, 0, 0, .null, []),
  (24, .sipush 256, 3, 0, 0, .null, []), (27, .idiv, 1, 0, 0, .null, []), (28, .iload_n 1, 1, 0, 0, .null, []), (29, .irem, 1, 0, 0, .null, []), (30, .ireturn, 1, 0, 0, .null, [])]
/-- SmallerInTheShopModel image ()I -/
def mp_219 : List (Nat × mm_I) := [(0, .aload_n 0, 1, 0, 0, .null, []), (1, .getfield 9, 3, 6, 0, .null, [883, 0]), (4, .aload_n 0, 1, 0, 0, .null, []), (5, .getfield 13, 3, 6, 1, .null, [884, 0]), (8, .invokestatic 146, 3, 147, 2, .null, [970, 0, 971, 61]), (11, .aload_n 0, 1, 0, 0, .null, []),
  (12, .iconst 1, 1, 0, 0, .null, []), (13, .putfield 292, 3, 6, 3, .null, [886, 0]), (16, .aload_n 0, 1, 0, 0, .null, []), (17, .getfield 9, 3, 6, 0, .null, [883, 0]), (20, .bipush 73, 2, 0, 0, .null, []), (22, .iaload, 1, 0, 0, .null, []),
  (23, .ireturn, 1, 0, 0, .null, [])]
/-- SmallerInTheShopModel on ()I -/
def mp_220 : List (Nat × mm_I) := [(0, .aload_n 0, 1, 0, 0, .null, []), (1, .getfield 292, 3, 6, 3, .null, [886, 0]), (4, .ifCond .ne 10, 3, 14, 0, .null, []), (7, .aload_n 0, 1, 0, 0, .null, []), (8, .bipush (-3), 2, 0, 0, .null, []), (10, .invokevirtual 41, 3, 141, 2, .null, [945, 0, 947, 61, 33]),
  (13, .ireturn, 1, 0, 0, .null, []), (14, .aload_n 0, 1, 0, 0, .null, []), (15, .getfield 13, 3, 6, 1, .null, [884, 0]), (18, .aload_n 0, 1, 0, 0, .null, []), (19, .getfield 9, 3, 6, 0, .null, [883, 0]), (22, .invokestatic 146, 3, 147, 2, .null, [970, 0, 971, 61]),
  (25, .aload_n 0, 1, 0, 0, .null, []), (26, .getfield 9, 3, 6, 0, .null, [883, 0]), (29, .bipush 73, 2, 0, 0, .null, []), (31, .iaload, 1, 0, 0, .null, []), (32, .ireturn, 1, 0, 0, .null, [])]
/-- SmallerInTheShopModel count (I)I -/
def mp_221 : List (Nat × mm_I) := [(0, .iload_n 1, 1, 0, 0, .null, []), (1, .tableswitch 118 0 7 #[47, 55, 63, 74, 82, 100, 108, 113], 47, 0, 0, .null, []), (48, .aload_n 0, 1, 0, 0, .null, []), (49, .getfield 9, 3, 6, 0, .null, [883, 0]), (52, .bipush 73, 2, 0, 0, .null, []), (54, .iaload, 1, 0, 0, .null, []),
  (55, .ireturn, 1, 0, 0, .null, []), (56, .aload_n 0, 1, 0, 0, .null, []), (57, .getfield 9, 3, 6, 0, .null, [883, 0]), (60, .invokestatic 173, 3, 178, 1, .null, [1083, 0, 1084, 61]), (63, .ireturn, 1, 0, 0, .null, []), (64, .sipush 1023, 3, 0, 0, .null, []),
  (67, .aload_n 0, 1, 0, 0, .null, []), (68, .invokevirtual 187, 3, 184, 1, .null, [1103, 0, 1105, 61, 40]), (71, .iconst (-1), 1, 0, 0, .null, []), (72, .ixor, 1, 0, 0, .null, []), (73, .iand, 1, 0, 0, .null, []), (74, .ireturn, 1, 0, 0, .null, []),
  (75, .aload_n 0, 1, 0, 0, .null, []), (76, .getfield 9, 3, 6, 0, .null, [883, 0]), (79, .bipush 72, 2, 0, 0, .null, []), (81, .iaload, 1, 0, 0, .null, []), (82, .ireturn, 1, 0, 0, .null, []), (83, .aload_n 0, 1, 0, 0, .null, []),
  (84, .getfield 9, 3, 6, 0, .null, [883, 0]), (87, .iconst 0, 1, 0, 0, .null, []), (88, .invokestatic 61, 3, 151, 2, .null, [985, 0, 986, 61]), (91, .aload_n 0, 1, 0, 0, .null, []), (92, .getfield 9, 3, 6, 0, .null, [883, 0]), (95, .iconst 1, 1, 0, 0, .null, []),
  (96, .invokestatic 61, 3, 151, 2, .null, [985, 0, 986, 61]), (99, .imul, 1, 0, 0, .null, []), (100, .ireturn, 1, 0, 0, .null, []), (101, .aload_n 0, 1, 0, 0, .null, []), (102, .getfield 9, 3, 6, 0, .null, [883, 0]), (105, .invokestatic 177, 3, 181, 1, .null, [1094, 0, 1095, 61]),
  (108, .ireturn, 1, 0, 0, .null, []), (109, .aload_n 0, 1, 0, 0, .null, []), (110, .getfield 242, 3, 6, 6, .null, [889, 0]), (113, .ireturn, 1, 0, 0, .null, []), (114, .aload_n 0, 1, 0, 0, .null, []), (115, .getfield 109, 3, 6, 8, .null, [891, 0]),
  (118, .ireturn, 1, 0, 0, .null, []), (119, .iload_n 1, 1, 0, 0, .null, []), (120, .i2l, 1, 0, 0, .null, []), (121, .ldc2_w 296, 3, 0, 0, .long (11), [1260]), (124, .ldc2_w 298, 3, 0, 0, .long (16), [1261]), (127, .invokestatic 57, 3, 146, 3, .null, [967, 0, 968, 61]),
  (130, .ifCond .eq 15, 3, 145, 0, .null, []), (133, .aload_n 0, 1, 0, 0, .null, []), (134, .getfield 21, 3, 6, 4, .null, [887, 0]), (137, .iload_n 1, 1, 0, 0, .null, []), (138, .bipush 10, 2, 0, 0, .null, []), (140, .isub, 1, 0, 0, .null, []),
  (141, .iaload, 1, 0, 0, .null, []), (142, .goto 5, 3, 147, 0, .null, []), (145, .bipush (-9), 2, 0, 0, .null, []), (147, .ireturn, 1, 0, 0, .null, [])]
/-- the law -/
def mp_law : List (Nat × mm_I) := [(0, .new 7, 3, 5, 0, .null, [70, 71, 55]), (3, .dup, 1, 0, 0, .null, []), (4, .invokespecial 9, 3, 82, 1, .null, [72, 0, 73, 55]), (7, .astore_n 1, 1, 0, 0, .null, []), (8, .new 10, 3, 6, 0, .null, [874, 875, 61]), (11, .dup, 1, 0, 0, .null, []),
  (12, .invokespecial 12, 3, 139, 1, .null, [876, 0, 877, 61]), (15, .astore_n 2, 1, 0, 0, .null, []), (16, .iconst 0, 1, 0, 0, .null, []), (17, .istore_n 3, 1, 0, 0, .null, []), (18, .iload_n 3, 1, 0, 0, .null, []), (19, .aload_n 0, 1, 0, 0, .null, []),
  (20, .arraylength, 1, 0, 0, .null, []), (21, .iconst 5, 1, 0, 0, .null, []), (22, .isub, 1, 0, 0, .null, []), (23, .if_icmp .gt 1067, 3, 1090, 0, .null, []), (26, .aload_n 0, 1, 0, 0, .null, []), (27, .iload_n 3, 1, 0, 0, .null, []),
  (28, .iaload, 1, 0, 0, .null, []), (29, .bipush 31, 2, 0, 0, .null, []), (31, .iand, 1, 0, 0, .null, []), (32, .tableswitch 1052 0 31 #[144, 167, 180, 213, 246, 279, 292, 325, 368, 391, 434, 467, 490, 513, 536, 589, 632, 645, 678, 711, 764, 797, 820, 854, 878, 911, 934, 947, 960, 1003, 1016, 1029], 144, 0, 0, .null, []), (176, .aload_n 1, 1, 0, 0, .null, []), (177, .aload_n 0, 1, 0, 0, .null, []),
  (178, .iload_n 3, 1, 0, 0, .null, []), (179, .iconst 1, 1, 0, 0, .null, []), (180, .iadd, 1, 0, 0, .null, []), (181, .iaload, 1, 0, 0, .null, []), (182, .invokevirtual 13, 3, 83, 2, .null, [254, 0, 255, 55, 256]), (185, .aload_n 2, 1, 0, 0, .null, []),
  (186, .aload_n 0, 1, 0, 0, .null, []), (187, .iload_n 3, 1, 0, 0, .null, []), (188, .iconst 1, 1, 0, 0, .null, []), (189, .iadd, 1, 0, 0, .null, []), (190, .iaload, 1, 0, 0, .null, []), (191, .invokevirtual 17, 3, 140, 2, .null, [941, 0, 942, 61, 943]),
  (194, .if_icmp .eq 890, 3, 1084, 0, .null, []), (197, .iconst 0, 1, 0, 0, .null, []), (198, .ireturn, 1, 0, 0, .null, []), (199, .aload_n 1, 1, 0, 0, .null, []), (200, .invokevirtual 18, 3, 85, 1, .null, [270, 0, 271, 55, 272]), (203, .aload_n 2, 1, 0, 0, .null, []),
  (204, .invokevirtual 22, 3, 142, 1, .null, [949, 0, 950, 61, 951]), (207, .if_icmp .eq 877, 3, 1084, 0, .null, []), (210, .iconst 0, 1, 0, 0, .null, []), (211, .ireturn, 1, 0, 0, .null, []), (212, .aload_n 1, 1, 0, 0, .null, []), (213, .aload_n 0, 1, 0, 0, .null, []),
  (214, .iload_n 3, 1, 0, 0, .null, []), (215, .iconst 1, 1, 0, 0, .null, []), (216, .iadd, 1, 0, 0, .null, []), (217, .iaload, 1, 0, 0, .null, []), (218, .aload_n 0, 1, 0, 0, .null, []), (219, .iload_n 3, 1, 0, 0, .null, []),
  (220, .iconst 2, 1, 0, 0, .null, []), (221, .iadd, 1, 0, 0, .null, []), (222, .iaload, 1, 0, 0, .null, []), (223, .invokevirtual 23, 3, 93, 3, .null, [552, 0, 553, 55, 554]), (226, .aload_n 2, 1, 0, 0, .null, []), (227, .aload_n 0, 1, 0, 0, .null, []),
  (228, .iload_n 3, 1, 0, 0, .null, []), (229, .iconst 1, 1, 0, 0, .null, []), (230, .iadd, 1, 0, 0, .null, []), (231, .iaload, 1, 0, 0, .null, []), (232, .aload_n 0, 1, 0, 0, .null, []), (233, .iload_n 3, 1, 0, 0, .null, []),
  (234, .iconst 2, 1, 0, 0, .null, []), (235, .iadd, 1, 0, 0, .null, []), (236, .iaload, 1, 0, 0, .null, []), (237, .invokevirtual 27, 3, 165, 3, .null, [1031, 0, 1032, 61, 1033]), (240, .if_icmp .eq 844, 3, 1084, 0, .null, []), (243, .iconst 0, 1, 0, 0, .null, []),
  (244, .ireturn, 1, 0, 0, .null, []), (245, .aload_n 1, 1, 0, 0, .null, []), (246, .aload_n 0, 1, 0, 0, .null, []), (247, .iload_n 3, 1, 0, 0, .null, []), (248, .iconst 1, 1, 0, 0, .null, []), (249, .iadd, 1, 0, 0, .null, []),
  (250, .iaload, 1, 0, 0, .null, []), (251, .aload_n 0, 1, 0, 0, .null, []), (252, .iload_n 3, 1, 0, 0, .null, []), (253, .iconst 2, 1, 0, 0, .null, []), (254, .iadd, 1, 0, 0, .null, []), (255, .iaload, 1, 0, 0, .null, []),
  (256, .invokevirtual 28, 3, 94, 3, .null, [558, 0, 559, 55, 560]), (259, .aload_n 2, 1, 0, 0, .null, []), (260, .aload_n 0, 1, 0, 0, .null, []), (261, .iload_n 3, 1, 0, 0, .null, []), (262, .iconst 1, 1, 0, 0, .null, []), (263, .iadd, 1, 0, 0, .null, []),
  (264, .iaload, 1, 0, 0, .null, []), (265, .aload_n 0, 1, 0, 0, .null, []), (266, .iload_n 3, 1, 0, 0, .null, []), (267, .iconst 2, 1, 0, 0, .null, []), (268, .iadd, 1, 0, 0, .null, []), (269, .iaload, 1, 0, 0, .null, []),
  (270, .invokevirtual 31, 3, 167, 3, .null, [1040, 0, 1041, 61, 1042]), (273, .if_icmp .eq 811, 3, 1084, 0, .null, []), (276, .iconst 0, 1, 0, 0, .null, []), (277, .ireturn, 1, 0, 0, .null, []), (278, .aload_n 1, 1, 0, 0, .null, []), (279, .aload_n 0, 1, 0, 0, .null, []),
  (280, .iload_n 3, 1, 0, 0, .null, []), (281, .iconst 1, 1, 0, 0, .null, []), (282, .iadd, 1, 0, 0, .null, []), (283, .iaload, 1, 0, 0, .null, []), (284, .aload_n 0, 1, 0, 0, .null, []), (285, .iload_n 3, 1, 0, 0, .null, []),
  (286, .iconst 2, 1, 0, 0, .null, []), (287, .iadd, 1, 0, 0, .null, []), (288, .iaload, 1, 0, 0, .null, []), (289, .invokevirtual 32, 3, 96, 3, .null, [574, 0, 575, 55, 576]), (292, .aload_n 2, 1, 0, 0, .null, []), (293, .aload_n 0, 1, 0, 0, .null, []),
  (294, .iload_n 3, 1, 0, 0, .null, []), (295, .iconst 1, 1, 0, 0, .null, []), (296, .iadd, 1, 0, 0, .null, []), (297, .iaload, 1, 0, 0, .null, []), (298, .aload_n 0, 1, 0, 0, .null, []), (299, .iload_n 3, 1, 0, 0, .null, []),
  (300, .iconst 2, 1, 0, 0, .null, []), (301, .iadd, 1, 0, 0, .null, []), (302, .iaload, 1, 0, 0, .null, []), (303, .invokevirtual 35, 3, 172, 3, .null, [1057, 0, 1058, 61, 1059]), (306, .if_icmp .eq 778, 3, 1084, 0, .null, []), (309, .iconst 0, 1, 0, 0, .null, []),
  (310, .ireturn, 1, 0, 0, .null, []), (311, .aload_n 1, 1, 0, 0, .null, []), (312, .invokevirtual 36, 3, 98, 1, .null, [582, 0, 583, 55, 584]), (315, .aload_n 2, 1, 0, 0, .null, []), (316, .invokevirtual 39, 3, 173, 1, .null, [1061, 0, 1062, 61, 1063]), (319, .if_icmp .eq 765, 3, 1084, 0, .null, []),
  (322, .iconst 0, 1, 0, 0, .null, []), (323, .ireturn, 1, 0, 0, .null, []), (324, .aload_n 1, 1, 0, 0, .null, []), (325, .aload_n 0, 1, 0, 0, .null, []), (326, .iload_n 3, 1, 0, 0, .null, []), (327, .iconst 1, 1, 0, 0, .null, []),
  (328, .iadd, 1, 0, 0, .null, []), (329, .iaload, 1, 0, 0, .null, []), (330, .aload_n 0, 1, 0, 0, .null, []), (331, .iload_n 3, 1, 0, 0, .null, []), (332, .iconst 2, 1, 0, 0, .null, []), (333, .iadd, 1, 0, 0, .null, []),
  (334, .iaload, 1, 0, 0, .null, []), (335, .invokevirtual 40, 3, 99, 3, .null, [586, 0, 587, 55, 588]), (338, .aload_n 2, 1, 0, 0, .null, []), (339, .aload_n 0, 1, 0, 0, .null, []), (340, .iload_n 3, 1, 0, 0, .null, []), (341, .iconst 1, 1, 0, 0, .null, []),
  (342, .iadd, 1, 0, 0, .null, []), (343, .iaload, 1, 0, 0, .null, []), (344, .aload_n 0, 1, 0, 0, .null, []), (345, .iload_n 3, 1, 0, 0, .null, []), (346, .iconst 2, 1, 0, 0, .null, []), (347, .iadd, 1, 0, 0, .null, []),
  (348, .iaload, 1, 0, 0, .null, []), (349, .invokevirtual 43, 3, 174, 3, .null, [1065, 0, 1066, 61, 1067]), (352, .if_icmp .eq 732, 3, 1084, 0, .null, []), (355, .iconst 0, 1, 0, 0, .null, []), (356, .ireturn, 1, 0, 0, .null, []), (357, .aload_n 1, 1, 0, 0, .null, []),
  (358, .aload_n 0, 1, 0, 0, .null, []), (359, .iload_n 3, 1, 0, 0, .null, []), (360, .iconst 1, 1, 0, 0, .null, []), (361, .iadd, 1, 0, 0, .null, []), (362, .iaload, 1, 0, 0, .null, []), (363, .aload_n 0, 1, 0, 0, .null, []),
  (364, .iload_n 3, 1, 0, 0, .null, []), (365, .iconst 2, 1, 0, 0, .null, []), (366, .iadd, 1, 0, 0, .null, []), (367, .iaload, 1, 0, 0, .null, []), (368, .aload_n 0, 1, 0, 0, .null, []), (369, .iload_n 3, 1, 0, 0, .null, []),
  (370, .iconst 3, 1, 0, 0, .null, []), (371, .iadd, 1, 0, 0, .null, []), (372, .iaload, 1, 0, 0, .null, []), (373, .invokevirtual 44, 3, 100, 4, .null, [590, 0, 591, 55, 592]), (376, .aload_n 2, 1, 0, 0, .null, []), (377, .aload_n 0, 1, 0, 0, .null, []),
  (378, .iload_n 3, 1, 0, 0, .null, []), (379, .iconst 1, 1, 0, 0, .null, []), (380, .iadd, 1, 0, 0, .null, []), (381, .iaload, 1, 0, 0, .null, []), (382, .aload_n 0, 1, 0, 0, .null, []), (383, .iload_n 3, 1, 0, 0, .null, []),
  (384, .iconst 2, 1, 0, 0, .null, []), (385, .iadd, 1, 0, 0, .null, []), (386, .iaload, 1, 0, 0, .null, []), (387, .aload_n 0, 1, 0, 0, .null, []), (388, .iload_n 3, 1, 0, 0, .null, []), (389, .iconst 3, 1, 0, 0, .null, []),
  (390, .iadd, 1, 0, 0, .null, []), (391, .iaload, 1, 0, 0, .null, []), (392, .invokevirtual 48, 3, 175, 4, .null, [1070, 0, 1071, 61, 1072]), (395, .if_icmp .eq 689, 3, 1084, 0, .null, []), (398, .iconst 0, 1, 0, 0, .null, []), (399, .ireturn, 1, 0, 0, .null, []),
  (400, .aload_n 1, 1, 0, 0, .null, []), (401, .aload_n 0, 1, 0, 0, .null, []), (402, .iload_n 3, 1, 0, 0, .null, []), (403, .iconst 1, 1, 0, 0, .null, []), (404, .iadd, 1, 0, 0, .null, []), (405, .iaload, 1, 0, 0, .null, []),
  (406, .invokevirtual 49, 3, 101, 2, .null, [594, 0, 595, 55, 596]), (409, .aload_n 2, 1, 0, 0, .null, []), (410, .aload_n 0, 1, 0, 0, .null, []), (411, .iload_n 3, 1, 0, 0, .null, []), (412, .iconst 1, 1, 0, 0, .null, []), (413, .iadd, 1, 0, 0, .null, []),
  (414, .iaload, 1, 0, 0, .null, []), (415, .invokevirtual 52, 3, 176, 2, .null, [1074, 0, 1075, 61, 1076]), (418, .if_icmp .eq 666, 3, 1084, 0, .null, []), (421, .iconst 0, 1, 0, 0, .null, []), (422, .ireturn, 1, 0, 0, .null, []), (423, .aload_n 1, 1, 0, 0, .null, []),
  (424, .aload_n 0, 1, 0, 0, .null, []), (425, .iload_n 3, 1, 0, 0, .null, []), (426, .iconst 1, 1, 0, 0, .null, []), (427, .iadd, 1, 0, 0, .null, []), (428, .iaload, 1, 0, 0, .null, []), (429, .aload_n 0, 1, 0, 0, .null, []),
  (430, .iload_n 3, 1, 0, 0, .null, []), (431, .iconst 2, 1, 0, 0, .null, []), (432, .iadd, 1, 0, 0, .null, []), (433, .iaload, 1, 0, 0, .null, []), (434, .aload_n 0, 1, 0, 0, .null, []), (435, .iload_n 3, 1, 0, 0, .null, []),
  (436, .iconst 3, 1, 0, 0, .null, []), (437, .iadd, 1, 0, 0, .null, []), (438, .iaload, 1, 0, 0, .null, []), (439, .invokevirtual 53, 3, 102, 4, .null, [598, 0, 599, 55, 600]), (442, .aload_n 2, 1, 0, 0, .null, []), (443, .aload_n 0, 1, 0, 0, .null, []),
  (444, .iload_n 3, 1, 0, 0, .null, []), (445, .iconst 1, 1, 0, 0, .null, []), (446, .iadd, 1, 0, 0, .null, []), (447, .iaload, 1, 0, 0, .null, []), (448, .aload_n 0, 1, 0, 0, .null, []), (449, .iload_n 3, 1, 0, 0, .null, []),
  (450, .iconst 2, 1, 0, 0, .null, []), (451, .iadd, 1, 0, 0, .null, []), (452, .iaload, 1, 0, 0, .null, []), (453, .aload_n 0, 1, 0, 0, .null, []), (454, .iload_n 3, 1, 0, 0, .null, []), (455, .iconst 3, 1, 0, 0, .null, []),
  (456, .iadd, 1, 0, 0, .null, []), (457, .iaload, 1, 0, 0, .null, []), (458, .invokevirtual 56, 3, 177, 4, .null, [1078, 0, 1079, 61, 1080]), (461, .if_icmp .eq 623, 3, 1084, 0, .null, []), (464, .iconst 0, 1, 0, 0, .null, []), (465, .ireturn, 1, 0, 0, .null, []),
  (466, .aload_n 1, 1, 0, 0, .null, []), (467, .aload_n 0, 1, 0, 0, .null, []), (468, .iload_n 3, 1, 0, 0, .null, []), (469, .iconst 1, 1, 0, 0, .null, []), (470, .iadd, 1, 0, 0, .null, []), (471, .iaload, 1, 0, 0, .null, []),
  (472, .aload_n 0, 1, 0, 0, .null, []), (473, .iload_n 3, 1, 0, 0, .null, []), (474, .iconst 2, 1, 0, 0, .null, []), (475, .iadd, 1, 0, 0, .null, []), (476, .iaload, 1, 0, 0, .null, []), (477, .invokevirtual 57, 3, 103, 3, .null, [607, 0, 608, 55, 609]),
  (480, .aload_n 2, 1, 0, 0, .null, []), (481, .aload_n 0, 1, 0, 0, .null, []), (482, .iload_n 3, 1, 0, 0, .null, []), (483, .iconst 1, 1, 0, 0, .null, []), (484, .iadd, 1, 0, 0, .null, []), (485, .iaload, 1, 0, 0, .null, []),
  (486, .aload_n 0, 1, 0, 0, .null, []), (487, .iload_n 3, 1, 0, 0, .null, []), (488, .iconst 2, 1, 0, 0, .null, []), (489, .iadd, 1, 0, 0, .null, []), (490, .iaload, 1, 0, 0, .null, []), (491, .invokevirtual 60, 3, 179, 3, .null, [1086, 0, 1087, 61, 1088]),
  (494, .if_icmp .eq 590, 3, 1084, 0, .null, []), (497, .iconst 0, 1, 0, 0, .null, []), (498, .ireturn, 1, 0, 0, .null, []), (499, .aload_n 1, 1, 0, 0, .null, []), (500, .aload_n 0, 1, 0, 0, .null, []), (501, .iload_n 3, 1, 0, 0, .null, []),
  (502, .iconst 1, 1, 0, 0, .null, []), (503, .iadd, 1, 0, 0, .null, []), (504, .iaload, 1, 0, 0, .null, []), (505, .invokevirtual 61, 3, 105, 2, .null, [618, 0, 619, 55, 620]), (508, .aload_n 2, 1, 0, 0, .null, []), (509, .aload_n 0, 1, 0, 0, .null, []),
  (510, .iload_n 3, 1, 0, 0, .null, []), (511, .iconst 1, 1, 0, 0, .null, []), (512, .iadd, 1, 0, 0, .null, []), (513, .iaload, 1, 0, 0, .null, []), (514, .invokevirtual 64, 3, 180, 2, .null, [1090, 0, 1091, 61, 1092]), (517, .if_icmp .eq 567, 3, 1084, 0, .null, []),
  (520, .iconst 0, 1, 0, 0, .null, []), (521, .ireturn, 1, 0, 0, .null, []), (522, .aload_n 1, 1, 0, 0, .null, []), (523, .aload_n 0, 1, 0, 0, .null, []), (524, .iload_n 3, 1, 0, 0, .null, []), (525, .iconst 1, 1, 0, 0, .null, []),
  (526, .iadd, 1, 0, 0, .null, []), (527, .iaload, 1, 0, 0, .null, []), (528, .invokevirtual 65, 3, 106, 2, .null, [639, 0, 640, 55, 641]), (531, .aload_n 2, 1, 0, 0, .null, []), (532, .aload_n 0, 1, 0, 0, .null, []), (533, .iload_n 3, 1, 0, 0, .null, []),
  (534, .iconst 1, 1, 0, 0, .null, []), (535, .iadd, 1, 0, 0, .null, []), (536, .iaload, 1, 0, 0, .null, []), (537, .invokevirtual 68, 3, 185, 2, .null, [1107, 0, 1108, 61, 1109]), (540, .if_icmp .eq 544, 3, 1084, 0, .null, []), (543, .iconst 0, 1, 0, 0, .null, []),
  (544, .ireturn, 1, 0, 0, .null, []), (545, .aload_n 1, 1, 0, 0, .null, []), (546, .aload_n 0, 1, 0, 0, .null, []), (547, .iload_n 3, 1, 0, 0, .null, []), (548, .iconst 1, 1, 0, 0, .null, []), (549, .iadd, 1, 0, 0, .null, []),
  (550, .iaload, 1, 0, 0, .null, []), (551, .invokevirtual 69, 3, 107, 2, .null, [705, 0, 706, 55, 707]), (554, .aload_n 2, 1, 0, 0, .null, []), (555, .aload_n 0, 1, 0, 0, .null, []), (556, .iload_n 3, 1, 0, 0, .null, []), (557, .iconst 1, 1, 0, 0, .null, []),
  (558, .iadd, 1, 0, 0, .null, []), (559, .iaload, 1, 0, 0, .null, []), (560, .invokevirtual 72, 3, 192, 2, .null, [1135, 0, 1136, 61, 1137]), (563, .if_icmp .eq 521, 3, 1084, 0, .null, []), (566, .iconst 0, 1, 0, 0, .null, []), (567, .ireturn, 1, 0, 0, .null, []),
  (568, .aload_n 1, 1, 0, 0, .null, []), (569, .aload_n 0, 1, 0, 0, .null, []), (570, .iload_n 3, 1, 0, 0, .null, []), (571, .iconst 1, 1, 0, 0, .null, []), (572, .iadd, 1, 0, 0, .null, []), (573, .iaload, 1, 0, 0, .null, []),
  (574, .aload_n 0, 1, 0, 0, .null, []), (575, .iload_n 3, 1, 0, 0, .null, []), (576, .iconst 2, 1, 0, 0, .null, []), (577, .iadd, 1, 0, 0, .null, []), (578, .iaload, 1, 0, 0, .null, []), (579, .aload_n 0, 1, 0, 0, .null, []),
  (580, .iload_n 3, 1, 0, 0, .null, []), (581, .iconst 3, 1, 0, 0, .null, []), (582, .iadd, 1, 0, 0, .null, []), (583, .iaload, 1, 0, 0, .null, []), (584, .aload_n 0, 1, 0, 0, .null, []), (585, .iload_n 3, 1, 0, 0, .null, []),
  (586, .iconst 4, 1, 0, 0, .null, []), (587, .iadd, 1, 0, 0, .null, []), (588, .iaload, 1, 0, 0, .null, []), (589, .invokevirtual 73, 3, 108, 5, .null, [713, 0, 714, 55, 715]), (592, .aload_n 2, 1, 0, 0, .null, []), (593, .aload_n 0, 1, 0, 0, .null, []),
  (594, .iload_n 3, 1, 0, 0, .null, []), (595, .iconst 1, 1, 0, 0, .null, []), (596, .iadd, 1, 0, 0, .null, []), (597, .iaload, 1, 0, 0, .null, []), (598, .aload_n 0, 1, 0, 0, .null, []), (599, .iload_n 3, 1, 0, 0, .null, []),
  (600, .iconst 2, 1, 0, 0, .null, []), (601, .iadd, 1, 0, 0, .null, []), (602, .iaload, 1, 0, 0, .null, []), (603, .aload_n 0, 1, 0, 0, .null, []), (604, .iload_n 3, 1, 0, 0, .null, []), (605, .iconst 3, 1, 0, 0, .null, []),
  (606, .iadd, 1, 0, 0, .null, []), (607, .iaload, 1, 0, 0, .null, []), (608, .aload_n 0, 1, 0, 0, .null, []), (609, .iload_n 3, 1, 0, 0, .null, []), (610, .iconst 4, 1, 0, 0, .null, []), (611, .iadd, 1, 0, 0, .null, []),
  (612, .iaload, 1, 0, 0, .null, []), (613, .invokevirtual 77, 3, 193, 5, .null, [1140, 0, 1141, 61, 1142]), (616, .if_icmp .eq 468, 3, 1084, 0, .null, []), (619, .iconst 0, 1, 0, 0, .null, []), (620, .ireturn, 1, 0, 0, .null, []), (621, .aload_n 1, 1, 0, 0, .null, []),
  (622, .aload_n 0, 1, 0, 0, .null, []), (623, .iload_n 3, 1, 0, 0, .null, []), (624, .iconst 1, 1, 0, 0, .null, []), (625, .iadd, 1, 0, 0, .null, []), (626, .iaload, 1, 0, 0, .null, []), (627, .aload_n 0, 1, 0, 0, .null, []),
  (628, .iload_n 3, 1, 0, 0, .null, []), (629, .iconst 2, 1, 0, 0, .null, []), (630, .iadd, 1, 0, 0, .null, []), (631, .iaload, 1, 0, 0, .null, []), (632, .aload_n 0, 1, 0, 0, .null, []), (633, .iload_n 3, 1, 0, 0, .null, []),
  (634, .iconst 3, 1, 0, 0, .null, []), (635, .iadd, 1, 0, 0, .null, []), (636, .iaload, 1, 0, 0, .null, []), (637, .invokevirtual 78, 3, 109, 4, .null, [717, 0, 718, 55, 719]), (640, .aload_n 2, 1, 0, 0, .null, []), (641, .aload_n 0, 1, 0, 0, .null, []),
  (642, .iload_n 3, 1, 0, 0, .null, []), (643, .iconst 1, 1, 0, 0, .null, []), (644, .iadd, 1, 0, 0, .null, []), (645, .iaload, 1, 0, 0, .null, []), (646, .aload_n 0, 1, 0, 0, .null, []), (647, .iload_n 3, 1, 0, 0, .null, []),
  (648, .iconst 2, 1, 0, 0, .null, []), (649, .iadd, 1, 0, 0, .null, []), (650, .iaload, 1, 0, 0, .null, []), (651, .aload_n 0, 1, 0, 0, .null, []), (652, .iload_n 3, 1, 0, 0, .null, []), (653, .iconst 3, 1, 0, 0, .null, []),
  (654, .iadd, 1, 0, 0, .null, []), (655, .iaload, 1, 0, 0, .null, []), (656, .invokevirtual 81, 3, 194, 4, .null, [1145, 0, 1146, 61, 1147]), (659, .if_icmp .eq 425, 3, 1084, 0, .null, []), (662, .iconst 0, 1, 0, 0, .null, []), (663, .ireturn, 1, 0, 0, .null, []),
  (664, .aload_n 1, 1, 0, 0, .null, []), (665, .invokevirtual 82, 3, 110, 1, .null, [721, 0, 722, 55, 723]), (668, .aload_n 2, 1, 0, 0, .null, []), (669, .invokevirtual 85, 3, 195, 1, .null, [1149, 0, 1150, 61, 1151]), (672, .if_icmp .eq 412, 3, 1084, 0, .null, []), (675, .iconst 0, 1, 0, 0, .null, []),
  (676, .ireturn, 1, 0, 0, .null, []), (677, .aload_n 1, 1, 0, 0, .null, []), (678, .aload_n 0, 1, 0, 0, .null, []), (679, .iload_n 3, 1, 0, 0, .null, []), (680, .iconst 1, 1, 0, 0, .null, []), (681, .iadd, 1, 0, 0, .null, []),
  (682, .iaload, 1, 0, 0, .null, []), (683, .aload_n 0, 1, 0, 0, .null, []), (684, .iload_n 3, 1, 0, 0, .null, []), (685, .iconst 2, 1, 0, 0, .null, []), (686, .iadd, 1, 0, 0, .null, []), (687, .iaload, 1, 0, 0, .null, []),
  (688, .invokevirtual 86, 3, 112, 3, .null, [729, 0, 730, 55, 731]), (691, .aload_n 2, 1, 0, 0, .null, []), (692, .aload_n 0, 1, 0, 0, .null, []), (693, .iload_n 3, 1, 0, 0, .null, []), (694, .iconst 1, 1, 0, 0, .null, []), (695, .iadd, 1, 0, 0, .null, []),
  (696, .iaload, 1, 0, 0, .null, []), (697, .aload_n 0, 1, 0, 0, .null, []), (698, .iload_n 3, 1, 0, 0, .null, []), (699, .iconst 2, 1, 0, 0, .null, []), (700, .iadd, 1, 0, 0, .null, []), (701, .iaload, 1, 0, 0, .null, []),
  (702, .invokevirtual 89, 3, 197, 3, .null, [1157, 0, 1158, 61, 1159]), (705, .if_icmp .eq 379, 3, 1084, 0, .null, []), (708, .iconst 0, 1, 0, 0, .null, []), (709, .ireturn, 1, 0, 0, .null, []), (710, .aload_n 1, 1, 0, 0, .null, []), (711, .aload_n 0, 1, 0, 0, .null, []),
  (712, .iload_n 3, 1, 0, 0, .null, []), (713, .iconst 1, 1, 0, 0, .null, []), (714, .iadd, 1, 0, 0, .null, []), (715, .iaload, 1, 0, 0, .null, []), (716, .aload_n 0, 1, 0, 0, .null, []), (717, .iload_n 3, 1, 0, 0, .null, []),
  (718, .iconst 2, 1, 0, 0, .null, []), (719, .iadd, 1, 0, 0, .null, []), (720, .iaload, 1, 0, 0, .null, []), (721, .invokevirtual 90, 3, 113, 3, .null, [746, 0, 747, 55, 748]), (724, .aload_n 2, 1, 0, 0, .null, []), (725, .aload_n 0, 1, 0, 0, .null, []),
  (726, .iload_n 3, 1, 0, 0, .null, []), (727, .iconst 1, 1, 0, 0, .null, []), (728, .iadd, 1, 0, 0, .null, []), (729, .iaload, 1, 0, 0, .null, []), (730, .aload_n 0, 1, 0, 0, .null, []), (731, .iload_n 3, 1, 0, 0, .null, []),
  (732, .iconst 2, 1, 0, 0, .null, []), (733, .iadd, 1, 0, 0, .null, []), (734, .iaload, 1, 0, 0, .null, []), (735, .invokevirtual 93, 3, 201, 3, .null, [1171, 0, 1172, 61, 1173]), (738, .if_icmp .eq 346, 3, 1084, 0, .null, []), (741, .iconst 0, 1, 0, 0, .null, []),
  (742, .ireturn, 1, 0, 0, .null, []), (743, .aload_n 1, 1, 0, 0, .null, []), (744, .aload_n 0, 1, 0, 0, .null, []), (745, .iload_n 3, 1, 0, 0, .null, []), (746, .iconst 1, 1, 0, 0, .null, []), (747, .iadd, 1, 0, 0, .null, []),
  (748, .iaload, 1, 0, 0, .null, []), (749, .aload_n 0, 1, 0, 0, .null, []), (750, .iload_n 3, 1, 0, 0, .null, []), (751, .iconst 2, 1, 0, 0, .null, []), (752, .iadd, 1, 0, 0, .null, []), (753, .iaload, 1, 0, 0, .null, []),
  (754, .aload_n 0, 1, 0, 0, .null, []), (755, .iload_n 3, 1, 0, 0, .null, []), (756, .iconst 3, 1, 0, 0, .null, []), (757, .iadd, 1, 0, 0, .null, []), (758, .iaload, 1, 0, 0, .null, []), (759, .aload_n 0, 1, 0, 0, .null, []),
  (760, .iload_n 3, 1, 0, 0, .null, []), (761, .iconst 4, 1, 0, 0, .null, []), (762, .iadd, 1, 0, 0, .null, []), (763, .iaload, 1, 0, 0, .null, []), (764, .invokevirtual 94, 3, 114, 5, .null, [750, 0, 751, 55, 752]), (767, .aload_n 2, 1, 0, 0, .null, []),
  (768, .aload_n 0, 1, 0, 0, .null, []), (769, .iload_n 3, 1, 0, 0, .null, []), (770, .iconst 1, 1, 0, 0, .null, []), (771, .iadd, 1, 0, 0, .null, []), (772, .iaload, 1, 0, 0, .null, []), (773, .aload_n 0, 1, 0, 0, .null, []),
  (774, .iload_n 3, 1, 0, 0, .null, []), (775, .iconst 2, 1, 0, 0, .null, []), (776, .iadd, 1, 0, 0, .null, []), (777, .iaload, 1, 0, 0, .null, []), (778, .aload_n 0, 1, 0, 0, .null, []), (779, .iload_n 3, 1, 0, 0, .null, []),
  (780, .iconst 3, 1, 0, 0, .null, []), (781, .iadd, 1, 0, 0, .null, []), (782, .iaload, 1, 0, 0, .null, []), (783, .aload_n 0, 1, 0, 0, .null, []), (784, .iload_n 3, 1, 0, 0, .null, []), (785, .iconst 4, 1, 0, 0, .null, []),
  (786, .iadd, 1, 0, 0, .null, []), (787, .iaload, 1, 0, 0, .null, []), (788, .invokevirtual 97, 3, 202, 5, .null, [1175, 0, 1176, 61, 1177]), (791, .if_icmp .eq 293, 3, 1084, 0, .null, []), (794, .iconst 0, 1, 0, 0, .null, []), (795, .ireturn, 1, 0, 0, .null, []),
  (796, .aload_n 1, 1, 0, 0, .null, []), (797, .aload_n 0, 1, 0, 0, .null, []), (798, .iload_n 3, 1, 0, 0, .null, []), (799, .iconst 1, 1, 0, 0, .null, []), (800, .iadd, 1, 0, 0, .null, []), (801, .iaload, 1, 0, 0, .null, []),
  (802, .aload_n 0, 1, 0, 0, .null, []), (803, .iload_n 3, 1, 0, 0, .null, []), (804, .iconst 2, 1, 0, 0, .null, []), (805, .iadd, 1, 0, 0, .null, []), (806, .iaload, 1, 0, 0, .null, []), (807, .invokevirtual 98, 3, 117, 3, .null, [761, 0, 762, 55, 763]),
  (810, .aload_n 2, 1, 0, 0, .null, []), (811, .aload_n 0, 1, 0, 0, .null, []), (812, .iload_n 3, 1, 0, 0, .null, []), (813, .iconst 1, 1, 0, 0, .null, []), (814, .iadd, 1, 0, 0, .null, []), (815, .iaload, 1, 0, 0, .null, []),
  (816, .aload_n 0, 1, 0, 0, .null, []), (817, .iload_n 3, 1, 0, 0, .null, []), (818, .iconst 2, 1, 0, 0, .null, []), (819, .iadd, 1, 0, 0, .null, []), (820, .iaload, 1, 0, 0, .null, []), (821, .invokevirtual 101, 3, 204, 3, .null, [1183, 0, 1184, 61, 1185]),
  (824, .if_icmp .eq 260, 3, 1084, 0, .null, []), (827, .iconst 0, 1, 0, 0, .null, []), (828, .ireturn, 1, 0, 0, .null, []), (829, .aload_n 1, 1, 0, 0, .null, []), (830, .aload_n 0, 1, 0, 0, .null, []), (831, .iload_n 3, 1, 0, 0, .null, []),
  (832, .iconst 1, 1, 0, 0, .null, []), (833, .iadd, 1, 0, 0, .null, []), (834, .iaload, 1, 0, 0, .null, []), (835, .invokevirtual 102, 3, 118, 2, .null, [766, 0, 767, 55, 768]), (838, .aload_n 2, 1, 0, 0, .null, []), (839, .aload_n 0, 1, 0, 0, .null, []),
  (840, .iload_n 3, 1, 0, 0, .null, []), (841, .iconst 1, 1, 0, 0, .null, []), (842, .iadd, 1, 0, 0, .null, []), (843, .iaload, 1, 0, 0, .null, []), (844, .invokevirtual 105, 3, 205, 2, .null, [1187, 0, 1188, 61, 1189]), (847, .if_icmp .eq 237, 3, 1084, 0, .null, []),
  (850, .iconst 0, 1, 0, 0, .null, []), (851, .ireturn, 1, 0, 0, .null, []), (852, .aload_n 1, 1, 0, 0, .null, []), (853, .aload_n 0, 1, 0, 0, .null, []), (854, .iload_n 3, 1, 0, 0, .null, []), (855, .iconst 1, 1, 0, 0, .null, []),
  (856, .iadd, 1, 0, 0, .null, []), (857, .iaload, 1, 0, 0, .null, []), (858, .aload_n 0, 1, 0, 0, .null, []), (859, .iload_n 3, 1, 0, 0, .null, []), (860, .iconst 2, 1, 0, 0, .null, []), (861, .iadd, 1, 0, 0, .null, []),
  (862, .iaload, 1, 0, 0, .null, []), (863, .invokevirtual 106, 3, 119, 3, .null, [771, 0, 772, 55, 773]), (866, .aload_n 2, 1, 0, 0, .null, []), (867, .aload_n 0, 1, 0, 0, .null, []), (868, .iload_n 3, 1, 0, 0, .null, []), (869, .iconst 1, 1, 0, 0, .null, []),
  (870, .iadd, 1, 0, 0, .null, []), (871, .iaload, 1, 0, 0, .null, []), (872, .aload_n 0, 1, 0, 0, .null, []), (873, .iload_n 3, 1, 0, 0, .null, []), (874, .iconst 2, 1, 0, 0, .null, []), (875, .iadd, 1, 0, 0, .null, []),
  (876, .iaload, 1, 0, 0, .null, []), (877, .invokevirtual 110, 3, 206, 3, .null, [1191, 0, 1192, 61, 1193]), (880, .lcmp, 1, 0, 0, .null, []), (881, .ifCond .eq 203, 3, 1084, 0, .null, []), (884, .iconst 0, 1, 0, 0, .null, []), (885, .ireturn, 1, 0, 0, .null, []),
  (886, .aload_n 1, 1, 0, 0, .null, []), (887, .aload_n 0, 1, 0, 0, .null, []), (888, .iload_n 3, 1, 0, 0, .null, []), (889, .iconst 1, 1, 0, 0, .null, []), (890, .iadd, 1, 0, 0, .null, []), (891, .iaload, 1, 0, 0, .null, []),
  (892, .invokevirtual 111, 3, 125, 2, .null, [795, 0, 796, 55, 797]), (895, .aload_n 2, 1, 0, 0, .null, []), (896, .aload_n 0, 1, 0, 0, .null, []), (897, .iload_n 3, 1, 0, 0, .null, []), (898, .iconst 1, 1, 0, 0, .null, []), (899, .iadd, 1, 0, 0, .null, []),
  (900, .iaload, 1, 0, 0, .null, []), (901, .invokevirtual 115, 3, 210, 2, .null, [1208, 0, 1209, 61, 1210]), (904, .lcmp, 1, 0, 0, .null, []), (905, .ifCond .eq 179, 3, 1084, 0, .null, []), (908, .iconst 0, 1, 0, 0, .null, []), (909, .ireturn, 1, 0, 0, .null, []),
  (910, .aload_n 1, 1, 0, 0, .null, []), (911, .aload_n 0, 1, 0, 0, .null, []), (912, .iload_n 3, 1, 0, 0, .null, []), (913, .iconst 1, 1, 0, 0, .null, []), (914, .iadd, 1, 0, 0, .null, []), (915, .iaload, 1, 0, 0, .null, []),
  (916, .aload_n 0, 1, 0, 0, .null, []), (917, .iload_n 3, 1, 0, 0, .null, []), (918, .iconst 2, 1, 0, 0, .null, []), (919, .iadd, 1, 0, 0, .null, []), (920, .iaload, 1, 0, 0, .null, []), (921, .invokevirtual 116, 3, 126, 3, .null, [804, 0, 805, 55, 806]),
  (924, .aload_n 2, 1, 0, 0, .null, []), (925, .aload_n 0, 1, 0, 0, .null, []), (926, .iload_n 3, 1, 0, 0, .null, []), (927, .iconst 1, 1, 0, 0, .null, []), (928, .iadd, 1, 0, 0, .null, []), (929, .iaload, 1, 0, 0, .null, []),
  (930, .aload_n 0, 1, 0, 0, .null, []), (931, .iload_n 3, 1, 0, 0, .null, []), (932, .iconst 2, 1, 0, 0, .null, []), (933, .iadd, 1, 0, 0, .null, []), (934, .iaload, 1, 0, 0, .null, []), (935, .invokevirtual 119, 3, 211, 3, .null, [1213, 0, 1214, 61, 1215]),
  (938, .if_icmp .eq 146, 3, 1084, 0, .null, []), (941, .iconst 0, 1, 0, 0, .null, []), (942, .ireturn, 1, 0, 0, .null, []), (943, .aload_n 1, 1, 0, 0, .null, []), (944, .aload_n 0, 1, 0, 0, .null, []), (945, .iload_n 3, 1, 0, 0, .null, []),
  (946, .iconst 1, 1, 0, 0, .null, []), (947, .iadd, 1, 0, 0, .null, []), (948, .iaload, 1, 0, 0, .null, []), (949, .invokevirtual 120, 3, 130, 2, .null, [821, 0, 822, 55, 823]), (952, .aload_n 2, 1, 0, 0, .null, []), (953, .aload_n 0, 1, 0, 0, .null, []),
  (954, .iload_n 3, 1, 0, 0, .null, []), (955, .iconst 1, 1, 0, 0, .null, []), (956, .iadd, 1, 0, 0, .null, []), (957, .iaload, 1, 0, 0, .null, []), (958, .invokevirtual 123, 3, 213, 2, .null, [1221, 0, 1222, 61, 1223]), (961, .if_icmp .eq 123, 3, 1084, 0, .null, []),
  (964, .iconst 0, 1, 0, 0, .null, []), (965, .ireturn, 1, 0, 0, .null, []), (966, .aload_n 1, 1, 0, 0, .null, []), (967, .invokevirtual 124, 3, 131, 1, .null, [825, 0, 826, 55, 827]), (970, .aload_n 2, 1, 0, 0, .null, []), (971, .invokevirtual 127, 3, 214, 1, .null, [1225, 0, 1226, 61, 1227]),
  (974, .if_icmp .eq 110, 3, 1084, 0, .null, []), (977, .iconst 0, 1, 0, 0, .null, []), (978, .ireturn, 1, 0, 0, .null, []), (979, .aload_n 1, 1, 0, 0, .null, []), (980, .invokevirtual 128, 3, 132, 1, .null, [829, 0, 830, 55, 831]), (983, .aload_n 2, 1, 0, 0, .null, []),
  (984, .invokevirtual 131, 3, 215, 1, .null, [1229, 0, 1230, 61, 1231]), (987, .if_icmp .eq 97, 3, 1084, 0, .null, []), (990, .iconst 0, 1, 0, 0, .null, []), (991, .ireturn, 1, 0, 0, .null, []), (992, .aload_n 1, 1, 0, 0, .null, []), (993, .aload_n 0, 1, 0, 0, .null, []),
  (994, .iload_n 3, 1, 0, 0, .null, []), (995, .iconst 1, 1, 0, 0, .null, []), (996, .iadd, 1, 0, 0, .null, []), (997, .iaload, 1, 0, 0, .null, []), (998, .aload_n 0, 1, 0, 0, .null, []), (999, .iload_n 3, 1, 0, 0, .null, []),
  (1000, .iconst 2, 1, 0, 0, .null, []), (1001, .iadd, 1, 0, 0, .null, []), (1002, .iaload, 1, 0, 0, .null, []), (1003, .aload_n 0, 1, 0, 0, .null, []), (1004, .iload_n 3, 1, 0, 0, .null, []), (1005, .iconst 3, 1, 0, 0, .null, []),
  (1006, .iadd, 1, 0, 0, .null, []), (1007, .iaload, 1, 0, 0, .null, []), (1008, .invokevirtual 132, 3, 133, 4, .null, [833, 0, 834, 55, 835]), (1011, .aload_n 2, 1, 0, 0, .null, []), (1012, .aload_n 0, 1, 0, 0, .null, []), (1013, .iload_n 3, 1, 0, 0, .null, []),
  (1014, .iconst 1, 1, 0, 0, .null, []), (1015, .iadd, 1, 0, 0, .null, []), (1016, .iaload, 1, 0, 0, .null, []), (1017, .aload_n 0, 1, 0, 0, .null, []), (1018, .iload_n 3, 1, 0, 0, .null, []), (1019, .iconst 2, 1, 0, 0, .null, []),
  (1020, .iadd, 1, 0, 0, .null, []), (1021, .iaload, 1, 0, 0, .null, []), (1022, .aload_n 0, 1, 0, 0, .null, []), (1023, .iload_n 3, 1, 0, 0, .null, []), (1024, .iconst 3, 1, 0, 0, .null, []), (1025, .iadd, 1, 0, 0, .null, []),
  (1026, .iaload, 1, 0, 0, .null, []), (1027, .invokevirtual 135, 3, 216, 4, .null, [1233, 0, 1234, 61, 1235]), (1030, .if_icmp .eq 54, 3, 1084, 0, .null, []), (1033, .iconst 0, 1, 0, 0, .null, []), (1034, .ireturn, 1, 0, 0, .null, []), (1035, .aload_n 1, 1, 0, 0, .null, []),
  (1036, .invokevirtual 136, 3, 135, 1, .null, [857, 0, 858, 55, 859]), (1039, .aload_n 2, 1, 0, 0, .null, []), (1040, .invokevirtual 139, 3, 219, 1, .null, [1248, 0, 1249, 61, 1250]), (1043, .if_icmp .eq 41, 3, 1084, 0, .null, []), (1046, .iconst 0, 1, 0, 0, .null, []), (1047, .ireturn, 1, 0, 0, .null, []),
  (1048, .aload_n 1, 1, 0, 0, .null, []), (1049, .invokevirtual 140, 3, 136, 1, .null, [861, 0, 862, 55, 863]), (1052, .aload_n 2, 1, 0, 0, .null, []), (1053, .invokevirtual 143, 3, 220, 1, .null, [1252, 0, 1253, 61, 1254]), (1056, .if_icmp .eq 28, 3, 1084, 0, .null, []), (1059, .iconst 0, 1, 0, 0, .null, []),
  (1060, .ireturn, 1, 0, 0, .null, []), (1061, .aload_n 1, 1, 0, 0, .null, []), (1062, .aload_n 0, 1, 0, 0, .null, []), (1063, .iload_n 3, 1, 0, 0, .null, []), (1064, .iconst 1, 1, 0, 0, .null, []), (1065, .iadd, 1, 0, 0, .null, []),
  (1066, .iaload, 1, 0, 0, .null, []), (1067, .invokevirtual 144, 3, 137, 2, .null, [865, 0, 866, 55, 867]), (1070, .aload_n 2, 1, 0, 0, .null, []), (1071, .aload_n 0, 1, 0, 0, .null, []), (1072, .iload_n 3, 1, 0, 0, .null, []), (1073, .iconst 1, 1, 0, 0, .null, []),
  (1074, .iadd, 1, 0, 0, .null, []), (1075, .iaload, 1, 0, 0, .null, []), (1076, .invokevirtual 147, 3, 221, 2, .null, [1256, 0, 1257, 61, 1258]), (1079, .if_icmp .eq 5, 3, 1084, 0, .null, []), (1082, .iconst 0, 1, 0, 0, .null, []), (1083, .ireturn, 1, 0, 0, .null, []),
  (1084, .iinc 3 5, 3, 0, 0, .null, []), (1087, .goto (-1069), 3, 18, 0, .null, []), (1090, .iconst 1, 1, 0, 0, .null, []), (1091, .ireturn, 1, 0, 0, .null, [])]
def mc_P0 : List mm_Mt := [(⟨"java/lang/Integer", "bitCount", "(I)I"⟩, prog_11_method_49_code, 1, (Option.some FieldType.int), 98, mc_co mp_0),
  (⟨"java/lang/String", "isEmpty", "()Z"⟩, prog_13_method_55_code, 1, (Option.some FieldType.boolean), 99, mc_co mp_1),
  (⟨"java/lang/String", "length", "()I"⟩, prog_13_method_54_code, 1, (Option.some FieldType.int), 99, mc_co mp_2),
  (⟨"java/lang/String", "coder", "()B"⟩, prog_13_method_152_code, 1, (Option.some FieldType.byte), 99, mc_co mp_3),
  (⟨"java/lang/String", "charAt", "(I)C"⟩, prog_13_method_56_code, 2, (Option.some FieldType.char), 99, mc_co mp_4),
  (⟨"java/lang/String", "isLatin1", "()Z"⟩, prog_13_method_154_code, 1, (Option.some FieldType.boolean), 99, mc_co mp_5),
  (⟨"java/lang/String", "checkIndex", "(II)V"⟩, prog_13_method_155_code, 2, (Option.none : Option FieldType), 99, mc_co mp_6),
  (⟨"java/lang/String", "indexOf", "(I)I"⟩, prog_13_method_79_code, 2, (Option.some FieldType.int), 99, mc_co mp_7),
  (⟨"java/lang/String", "indexOf", "(II)I"⟩, prog_13_method_80_code, 3, (Option.some FieldType.int), 99, mc_co mp_8),
  (⟨"java/lang/StringLatin1", "charAt", "([BI)C"⟩, prog_14_method_2_code, 2, (Option.some FieldType.char), 98, mc_co mp_9),
  (⟨"java/lang/StringLatin1", "indexOf", "([BIII)I"⟩, prog_14_method_22_code, 4, (Option.some FieldType.int), 98, mc_co mp_10),
  (⟨"java/lang/StringLatin1", "canEncode", "(I)Z"⟩, prog_14_method_4_code, 1, (Option.some FieldType.boolean), 98, mc_co mp_11),
  (⟨"java/lang/StringLatin1", "indexOfChar", "([BIII)I"⟩, prog_14_method_23_code, 6, (Option.some FieldType.int), 98, mc_co mp_12),
  (⟨"jdk/internal/util/Preconditions", "checkIndex", "(IILjava/util/function/BiFunction;)I"⟩, prog_16_method_11_code, 3, (Option.some FieldType.int), 98, mc_co mp_13),
  (⟨"SmallerInTheShop$Draws", "<init>", "()V"⟩, prog_2_method_1_code, 1, (Option.none : Option FieldType), 0, mc_co mp_14),
  (⟨"SmallerInTheShop$Draws", "drawBelow", "(I)I"⟩, prog_2_method_2_code, 2, (Option.some FieldType.int), 0, mc_co mp_15),
  (⟨"SmallerInTheShop$Kinds", "effort", "(IIII)I"⟩, prog_3_method_2_code, 4, (Option.some FieldType.int), 98, mc_co mp_16),
  (⟨"SmallerInTheShop$Kinds", "effortAgainst", "(III)I"⟩, prog_3_method_4_code, 3, (Option.some FieldType.int), 98, mc_co mp_17),
  (⟨"SmallerInTheShop$Kinds", "sprungSide", "(II)I"⟩, prog_3_method_6_code, 2, (Option.some FieldType.int), 98, mc_co mp_18),
  (⟨"SmallerInTheShop$Kinds", "wear", "(III)I"⟩, prog_3_method_3_code, 3, (Option.some FieldType.int), 98, mc_co mp_19),
  (⟨"SmallerInTheShop$Kinds", "wearAgainst", "(II)I"⟩, prog_3_method_5_code, 2, (Option.some FieldType.int), 98, mc_co mp_20),
  (⟨"SmallerInTheShop$Layout", "<init>", "()V"⟩, prog_4_method_1_code, 2, (Option.none : Option FieldType), 1, mc_co mp_21),
  (⟨"SmallerInTheShop$Layout", "copyLayout", "(LSmallerInTheShop$Layout;)V"⟩, prog_4_method_2_code, 3, (Option.none : Option FieldType), 1, mc_co mp_22),
  (⟨"SmallerInTheShop$Layout", "hasLine", "(I)Z"⟩, prog_4_method_3_code, 2, (Option.some FieldType.boolean), 1, mc_co mp_23),
  (⟨"SmallerInTheShop$Layout", "becomeFolded", "(LSmallerInTheShop$Layout;II)V"⟩, prog_4_method_15_code, 7, (Option.none : Option FieldType), 1, mc_co mp_24),
  (⟨"SmallerInTheShop$Layout", "movePanels", "(LSmallerInTheShop$Layout;ZIZZ)V"⟩, prog_4_method_16_code, 15, (Option.none : Option FieldType), 1, mc_co mp_25),
  (⟨"SmallerInTheShop$Layout", "heapAt", "(ZII)I"⟩, prog_4_method_20_code, 4, (Option.some FieldType.int), 1, mc_co mp_26),
  (⟨"SmallerInTheShop$Layout", "countHeaps", "()V"⟩, prog_4_method_19_code, 2, (Option.none : Option FieldType), 1, mc_co mp_27),
  (⟨"SmallerInTheShop$Layout", "cellOf", "(I)I"⟩, prog_4_method_21_code, 2, (Option.some FieldType.int), 1, mc_co mp_28),
  (⟨"SmallerInTheShop$Layout", "foldCreases", "(LSmallerInTheShop$Layout;ZIZ)V"⟩, prog_4_method_17_code, 7, (Option.none : Option FieldType), 1, mc_co mp_29),
  (⟨"SmallerInTheShop$Layout", "liesAcross", "(IZI)Z"⟩, prog_4_method_18_code, 8, (Option.some FieldType.boolean), 1, mc_co mp_30),
  (⟨"SmallerInTheShop$Layout", "isRead", "(I)Z"⟩, prog_4_method_9_code, 2, (Option.some FieldType.boolean), 1, mc_co mp_31),
  (⟨"SmallerInTheShop$Layout", "countAbove", "(I)I"⟩, prog_4_method_8_code, 2, (Option.some FieldType.int), 1, mc_co mp_32),
  (⟨"SmallerInTheShop$Layout", "liesAbove", "(II)Z"⟩, prog_4_method_14_code, 3, (Option.some FieldType.boolean), 1, mc_co mp_33),
  (⟨"SmallerInTheShop$Layout", "thickness", "()I"⟩, prog_4_method_13_code, 3, (Option.some FieldType.int), 1, mc_co mp_34),
  (⟨"SmallerInTheShop$Layout", "readPanels", "()I"⟩, prog_4_method_11_code, 3, (Option.some FieldType.int), 1, mc_co mp_35),
  (⟨"SmallerInTheShop$Layout", "showsBack", "(I)Z"⟩, prog_4_method_10_code, 2, (Option.some FieldType.boolean), 1, mc_co mp_36),
  (⟨"SmallerInTheShop$Layout", "foldedCreases", "()I"⟩, prog_4_method_12_code, 3, (Option.some FieldType.int), 1, mc_co mp_37),
  (⟨"SmallerInTheShop$Layout", "cells", "()I"⟩, prog_4_method_6_code, 1, (Option.some FieldType.int), 1, mc_co mp_38),
  (⟨"SmallerInTheShop$Layout", "isShut", "()Z"⟩, prog_4_method_7_code, 1, (Option.some FieldType.boolean), 1, mc_co mp_39)]
def mc_P1 : List mm_Mt := [(⟨"SmallerInTheShop$Layout", "countLines", "()I"⟩, prog_4_method_4_code, 1, (Option.some FieldType.int), 1, mc_co mp_40),
  (⟨"SmallerInTheShop$Layout", "lineOfNumber", "(I)I"⟩, prog_4_method_5_code, 2, (Option.some FieldType.int), 1, mc_co mp_41),
  (⟨"SmallerInTheShop$Letters", "<init>", "()V"⟩, prog_5_method_1_code, 1, (Option.none : Option FieldType), 2, mc_co mp_42),
  (⟨"SmallerInTheShop$Letters", "isFull", "()Z"⟩, prog_5_method_2_code, 1, (Option.some FieldType.boolean), 2, mc_co mp_43),
  (⟨"SmallerInTheShop$Letters", "addLetter", "(I)I"⟩, prog_5_method_3_code, 2, (Option.some FieldType.int), 2, mc_co mp_44),
  (⟨"SmallerInTheShop$Letters", "firstWrongPlace", "()I"⟩, prog_5_method_9_code, 5, (Option.some FieldType.int), 2, mc_co mp_45),
  (⟨"SmallerInTheShop$Letters", "signAt", "(I)I"⟩, prog_5_method_5_code, 2, (Option.some FieldType.int), 2, mc_co mp_46),
  (⟨"SmallerInTheShop$Letters", "shapeBehind", "(I)Ljava/lang/String;"⟩, prog_5_method_10_code, 1, (Option.some (FieldType.object "java/lang/String")), 2, mc_co mp_47),
  (⟨"SmallerInTheShop$Letters", "fits", "(IC)Z"⟩, prog_5_method_11_code, 2, (Option.some FieldType.boolean), 2, mc_co mp_48),
  (⟨"SmallerInTheShop$Letters", "lengthBehind", "(I)I"⟩, prog_5_method_8_code, 2, (Option.some FieldType.int), 2, mc_co mp_49),
  (⟨"SmallerInTheShop$Letters", "digitAt", "(I)I"⟩, prog_5_method_6_code, 2, (Option.some FieldType.int), 2, mc_co mp_50),
  (⟨"SmallerInTheShop$Letters", "kindAt", "(I)I"⟩, prog_5_method_7_code, 2, (Option.some FieldType.int), 2, mc_co mp_51),
  (⟨"SmallerInTheShop$Letters", "forget", "()V"⟩, prog_5_method_4_code, 1, (Option.none : Option FieldType), 2, mc_co mp_52),
  (⟨"SmallerInTheShop$Search", "<init>", "()V"⟩, prog_6_method_1_code, 1, (Option.none : Option FieldType), 3, mc_co mp_53),
  (⟨"SmallerInTheShop$Search", "begin", "(I)V"⟩, prog_6_method_2_code, 3, (Option.none : Option FieldType), 3, mc_co mp_54),
  (⟨"SmallerInTheShop$Search", "run", "(LSmallerInTheShop$Sheet;)V"⟩, prog_6_method_3_code, 2, (Option.none : Option FieldType), 3, mc_co mp_55),
  (⟨"SmallerInTheShop$Search", "explore", "(LSmallerInTheShop$Sheet;III)V"⟩, prog_6_method_7_code, 10, (Option.none : Option FieldType), 3, mc_co mp_56),
  (⟨"SmallerInTheShop$Search", "isReached", "(LSmallerInTheShop$Sheet;LSmallerInTheShop$Layout;)Z"⟩, prog_6_method_10_code, 3, (Option.some FieldType.boolean), 3, mc_co mp_57),
  (⟨"SmallerInTheShop$Search", "liesAsWanted", "(LSmallerInTheShop$Layout;)Z"⟩, prog_6_method_11_code, 3, (Option.some FieldType.boolean), 3, mc_co mp_58),
  (⟨"SmallerInTheShop$Search", "costOf", "(LSmallerInTheShop$Layout;II)I"⟩, prog_6_method_12_code, 4, (Option.some FieldType.int), 3, mc_co mp_59),
  (⟨"SmallerInTheShop$Search", "offer", "(II)V"⟩, prog_6_method_13_code, 3, (Option.none : Option FieldType), 3, mc_co mp_60),
  (⟨"SmallerInTheShop$Search", "isHopeless", "(I)Z"⟩, prog_6_method_9_code, 3, (Option.some FieldType.boolean), 3, mc_co mp_61),
  (⟨"SmallerInTheShop$Search", "waysToTry", "(LSmallerInTheShop$Layout;)I"⟩, prog_6_method_8_code, 2, (Option.some FieldType.int), 3, mc_co mp_62),
  (⟨"SmallerInTheShop$Search", "wayFound", "()I"⟩, prog_6_method_4_code, 1, (Option.some FieldType.int), 3, mc_co mp_63),
  (⟨"SmallerInTheShop$Search", "costFound", "()I"⟩, prog_6_method_5_code, 1, (Option.some FieldType.int), 3, mc_co mp_64),
  (⟨"SmallerInTheShop$Search", "waysWith", "(I)I"⟩, prog_6_method_6_code, 2, (Option.some FieldType.int), 3, mc_co mp_65),
  (⟨"SmallerInTheShop$Sheet", "<init>", "()V"⟩, prog_7_method_1_code, 2, (Option.none : Option FieldType), 4, mc_co mp_66),
  (⟨"SmallerInTheShop$Sheet", "copyFrom", "(LSmallerInTheShop$Sheet;)V"⟩, prog_7_method_2_code, 3, (Option.none : Option FieldType), 4, mc_co mp_67),
  (⟨"SmallerInTheShop$Sheet", "copyCreasesFrom", "(LSmallerInTheShop$Sheet;)V"⟩, prog_7_method_3_code, 3, (Option.none : Option FieldType), 4, mc_co mp_68),
  (⟨"SmallerInTheShop$Sheet", "canFold", "(II)Z"⟩, prog_7_method_5_code, 3, (Option.some FieldType.boolean), 4, mc_co mp_69),
  (⟨"SmallerInTheShop$Sheet", "makeFold", "(II)I"⟩, prog_7_method_7_code, 4, (Option.some FieldType.int), 4, mc_co mp_70),
  (⟨"SmallerInTheShop$Sheet", "tryFold", "(III)I"⟩, prog_7_method_6_code, 7, (Option.some FieldType.int), 4, mc_co mp_71),
  (⟨"SmallerInTheShop$Sheet", "effortOn", "(II)I"⟩, prog_7_method_9_code, 3, (Option.some FieldType.int), 4, mc_co mp_72),
  (⟨"SmallerInTheShop$Sheet", "top", "()LSmallerInTheShop$Layout;"⟩, prog_7_method_4_code, 1, (Option.some (FieldType.object "SmallerInTheShop$Layout")), 4, mc_co mp_73),
  (⟨"SmallerInTheShop$Sheet", "wearDown", "(LSmallerInTheShop$Layout;)V"⟩, prog_7_method_11_code, 3, (Option.none : Option FieldType), 4, mc_co mp_74),
  (⟨"SmallerInTheShop$Sheet", "wornBehind", "(ILSmallerInTheShop$Layout;)I"⟩, prog_7_method_12_code, 4, (Option.some FieldType.int), 4, mc_co mp_75),
  (⟨"SmallerInTheShop$Sheet", "openLast", "()Z"⟩, prog_7_method_8_code, 1, (Option.some FieldType.boolean), 4, mc_co mp_76),
  (⟨"SmallerInTheShop$Sheet", "wearOf", "(LSmallerInTheShop$Layout;)I"⟩, prog_7_method_10_code, 4, (Option.some FieldType.int), 4, mc_co mp_77),
  (⟨"SmallerInTheShop$Sheet", "lastsUnder", "(LSmallerInTheShop$Layout;)I"⟩, prog_7_method_16_code, 4, (Option.some FieldType.int), 4, mc_co mp_78),
  (⟨"SmallerInTheShop$Sheet", "holes", "()I"⟩, prog_7_method_15_code, 3, (Option.some FieldType.int), 4, mc_co mp_79)]
def mc_P2 : List mm_Mt := [(⟨"SmallerInTheShop$Sheet", "wornAt", "(I)I"⟩, prog_7_method_14_code, 2, (Option.some FieldType.int), 4, mc_co mp_80),
  (⟨"SmallerInTheShop$Sheet", "wornOfAll", "()I"⟩, prog_7_method_13_code, 3, (Option.some FieldType.int), 4, mc_co mp_81),
  (⟨"SmallerInTheShop", "<init>", "()V"⟩, prog_1_method_1_code, 1, (Option.none : Option FieldType), 5, mc_co mp_82),
  (⟨"SmallerInTheShop", "letter", "(I)I"⟩, prog_1_method_2_code, 2, (Option.some FieldType.int), 5, mc_co mp_83),
  (⟨"SmallerInTheShop", "refuse", "(I)I"⟩, prog_1_method_35_code, 3, (Option.some FieldType.int), 5, mc_co mp_84),
  (⟨"SmallerInTheShop", "map", "()I"⟩, prog_1_method_3_code, 3, (Option.some FieldType.int), 5, mc_co mp_85),
  (⟨"SmallerInTheShop", "doStatements", "()I"⟩, prog_1_method_42_code, 3, (Option.some FieldType.int), 5, mc_co mp_86),
  (⟨"SmallerInTheShop", "doStatement", "(I)Z"⟩, prog_1_method_43_code, 3, (Option.some FieldType.boolean), 5, mc_co mp_87),
  (⟨"SmallerInTheShop", "tellKind", "(III)Z"⟩, prog_1_method_44_code, 4, (Option.some FieldType.boolean), 5, mc_co mp_88),
  (⟨"SmallerInTheShop", "isBelow", "(II)Z"⟩, prog_1_method_38_code, 2, (Option.some FieldType.boolean), 5, mc_co mp_89),
  (⟨"SmallerInTheShop", "tellWorn", "(II)Z"⟩, prog_1_method_45_code, 3, (Option.some FieldType.boolean), 5, mc_co mp_90),
  (⟨"SmallerInTheShop", "tellFold", "(II)Z"⟩, prog_1_method_46_code, 3, (Option.some FieldType.boolean), 5, mc_co mp_91),
  (⟨"SmallerInTheShop", "tellCover", "(I)Z"⟩, prog_1_method_47_code, 2, (Option.some FieldType.boolean), 5, mc_co mp_92),
  (⟨"SmallerInTheShop", "crease", "(II)I"⟩, prog_1_method_4_code, 3, (Option.some FieldType.int), 5, mc_co mp_93),
  (⟨"SmallerInTheShop", "panel", "(II)I"⟩, prog_1_method_5_code, 4, (Option.some FieldType.int), 5, mc_co mp_94),
  (⟨"SmallerInTheShop", "asNumber", "(Z)I"⟩, prog_1_method_41_code, 1, (Option.some FieldType.int), 5, mc_co mp_95),
  (⟨"SmallerInTheShop", "fold", "(II)I"⟩, prog_1_method_6_code, 4, (Option.some FieldType.int), 5, mc_co mp_96),
  (⟨"SmallerInTheShop", "refusalOfFold", "(II)I"⟩, prog_1_method_37_code, 3, (Option.some FieldType.int), 5, mc_co mp_97),
  (⟨"SmallerInTheShop", "opens", "()I"⟩, prog_1_method_7_code, 1, (Option.some FieldType.int), 5, mc_co mp_98),
  (⟨"SmallerInTheShop", "wears", "(II)I"⟩, prog_1_method_8_code, 4, (Option.some FieldType.int), 5, mc_co mp_99),
  (⟨"SmallerInTheShop", "turn", "(III)I"⟩, prog_1_method_9_code, 5, (Option.some FieldType.int), 5, mc_co mp_100),
  (⟨"SmallerInTheShop", "cover", "(I)I"⟩, prog_1_method_10_code, 3, (Option.some FieldType.int), 5, mc_co mp_101),
  (⟨"SmallerInTheShop", "hurts", "(III)I"⟩, prog_1_method_11_code, 7, (Option.some FieldType.int), 5, mc_co mp_102),
  (⟨"SmallerInTheShop", "over", "(II)I"⟩, prog_1_method_12_code, 3, (Option.some FieldType.int), 5, mc_co mp_103),
  (⟨"SmallerInTheShop", "arePair", "(II)Z"⟩, prog_1_method_40_code, 2, (Option.some FieldType.boolean), 5, mc_co mp_104),
  (⟨"SmallerInTheShop", "wad", "(I)I"⟩, prog_1_method_13_code, 3, (Option.some FieldType.int), 5, mc_co mp_105),
  (⟨"SmallerInTheShop", "shut", "(I)I"⟩, prog_1_method_14_code, 2, (Option.some FieldType.int), 5, mc_co mp_106),
  (⟨"SmallerInTheShop", "ways", "(I)I"⟩, prog_1_method_15_code, 2, (Option.some FieldType.int), 5, mc_co mp_107),
  (⟨"SmallerInTheShop", "up", "(IIII)I"⟩, prog_1_method_16_code, 5, (Option.some FieldType.int), 5, mc_co mp_108),
  (⟨"SmallerInTheShop", "most", "(III)I"⟩, prog_1_method_17_code, 4, (Option.some FieldType.int), 5, mc_co mp_109),
  (⟨"SmallerInTheShop", "layers", "()I"⟩, prog_1_method_18_code, 2, (Option.some FieldType.int), 5, mc_co mp_110),
  (⟨"SmallerInTheShop", "tellsAllPanels", "()Z"⟩, prog_1_method_48_code, 3, (Option.some FieldType.boolean), 5, mc_co mp_111),
  (⟨"SmallerInTheShop", "lasts", "(II)I"⟩, prog_1_method_19_code, 4, (Option.some FieldType.int), 5, mc_co mp_112),
  (⟨"SmallerInTheShop", "tape", "(II)I"⟩, prog_1_method_20_code, 9, (Option.some FieldType.int), 5, mc_co mp_113),
  (⟨"SmallerInTheShop", "first", "(IIII)I"⟩, prog_1_method_21_code, 7, (Option.some FieldType.int), 5, mc_co mp_114),
  (⟨"SmallerInTheShop", "isLine", "(I)Z"⟩, prog_1_method_39_code, 1, (Option.some FieldType.boolean), 5, mc_co mp_115),
  (⟨"SmallerInTheShop", "effortOfTwo", "(IIII)I"⟩, prog_1_method_49_code, 7, (Option.some FieldType.int), 5, mc_co mp_116),
  (⟨"SmallerInTheShop", "hole", "(II)I"⟩, prog_1_method_22_code, 4, (Option.some FieldType.int), 5, mc_co mp_117),
  (⟨"SmallerInTheShop", "weakest", "(I)I"⟩, prog_1_method_23_code, 4, (Option.some FieldType.int), 5, mc_co mp_118),
  (⟨"SmallerInTheShop", "wind", "(II)J"⟩, prog_1_method_24_code, 10, (Option.some FieldType.long), 5, mc_co mp_119)]
def mc_P3 : List mm_Mt := [(⟨"SmallerInTheShop", "refuseLong", "(I)J"⟩, prog_1_method_36_code, 2, (Option.some FieldType.long), 5, mc_co mp_120),
  (⟨"SmallerInTheShop", "firstImpossible", "()I"⟩, prog_1_method_50_code, 5, (Option.some FieldType.int), 5, mc_co mp_121),
  (⟨"SmallerInTheShop", "power", "(JI)J"⟩, prog_1_method_52_code, 6, (Option.some FieldType.long), 5, mc_co mp_122),
  (⟨"SmallerInTheShop", "isCoverOutBy", "(I)Z"⟩, prog_1_method_51_code, 6, (Option.some FieldType.boolean), 5, mc_co mp_123),
  (⟨"SmallerInTheShop", "partOfFraction", "(JJI)J"⟩, prog_1_method_53_code, 12, (Option.some FieldType.long), 5, mc_co mp_124),
  (⟨"SmallerInTheShop", "mean", "(I)J"⟩, prog_1_method_25_code, 2, (Option.some FieldType.long), 5, mc_co mp_125),
  (⟨"SmallerInTheShop", "whatIs", "(II)I"⟩, prog_1_method_26_code, 3, (Option.some FieldType.int), 5, mc_co mp_126),
  (⟨"SmallerInTheShop", "kindsThatFit", "(I)I"⟩, prog_1_method_54_code, 4, (Option.some FieldType.int), 5, mc_co mp_127),
  (⟨"SmallerInTheShop", "fitsAllPairs", "(II)Z"⟩, prog_1_method_56_code, 4, (Option.some FieldType.boolean), 5, mc_co mp_128),
  (⟨"SmallerInTheShop", "figuresThatFit", "(I)I"⟩, prog_1_method_55_code, 4, (Option.some FieldType.int), 5, mc_co mp_129),
  (⟨"SmallerInTheShop", "row", "(I)I"⟩, prog_1_method_27_code, 2, (Option.some FieldType.int), 5, mc_co mp_130),
  (⟨"SmallerInTheShop", "judge", "()I"⟩, prog_1_method_28_code, 2, (Option.some FieldType.int), 5, mc_co mp_131),
  (⟨"SmallerInTheShop", "clear", "()I"⟩, prog_1_method_29_code, 2, (Option.some FieldType.int), 5, mc_co mp_132),
  (⟨"SmallerInTheShop", "lots", "(III)I"⟩, prog_1_method_30_code, 7, (Option.some FieldType.int), 5, mc_co mp_133),
  (⟨"SmallerInTheShop", "shutByLot", "()I"⟩, prog_1_method_57_code, 6, (Option.some FieldType.int), 5, mc_co mp_134),
  (⟨"SmallerInTheShop", "image", "()I"⟩, prog_1_method_31_code, 1, (Option.some FieldType.int), 5, mc_co mp_135),
  (⟨"SmallerInTheShop", "on", "()I"⟩, prog_1_method_32_code, 1, (Option.some FieldType.int), 5, mc_co mp_136),
  (⟨"SmallerInTheShop", "count", "(I)I"⟩, prog_1_method_33_code, 2, (Option.some FieldType.int), 5, mc_co mp_137),
  (⟨"SmallerInTheShop", "countOfRefusals", "(I)I"⟩, prog_1_method_34_code, 2, (Option.some FieldType.int), 5, mc_co mp_138),
  (⟨"SmallerInTheShopModel", "<init>", "()V"⟩, prog_9_method_1_code, 2, (Option.none : Option FieldType), 6, mc_co mp_139),
  (⟨"SmallerInTheShopModel", "letter", "(I)I"⟩, prog_9_method_27_code, 2, (Option.some FieldType.int), 6, mc_co mp_140),
  (⟨"SmallerInTheShopModel", "refused", "(I)I"⟩, prog_9_method_3_code, 2, (Option.some FieldType.int), 6, mc_co mp_141),
  (⟨"SmallerInTheShopModel", "map", "()I"⟩, prog_9_method_33_code, 5, (Option.some FieldType.int), 6, mc_co mp_142),
  (⟨"SmallerInTheShopModel", "faultOf", "(I)I"⟩, prog_9_method_30_code, 5, (Option.some FieldType.int), 6, mc_co mp_143),
  (⟨"SmallerInTheShopModel", "sizeOf", "(I)I"⟩, prog_9_method_29_code, 1, (Option.some FieldType.int), 6, mc_co mp_144),
  (⟨"SmallerInTheShopModel", "fits", "(III)Z"⟩, prog_9_method_28_code, 5, (Option.some FieldType.boolean), 6, mc_co mp_145),
  (⟨"SmallerInTheShopModel", "in", "(JJJ)Z"⟩, prog_9_method_2_code, 6, (Option.some FieldType.boolean), 6, mc_co mp_146),
  (⟨"SmallerInTheShopModel", "copies", "([I[I)V"⟩, prog_9_method_5_code, 3, (Option.none : Option FieldType), 6, mc_co mp_147),
  (⟨"SmallerInTheShopModel", "comes", "([II)Z"⟩, prog_9_method_32_code, 4, (Option.some FieldType.boolean), 6, mc_co mp_148),
  (⟨"SmallerInTheShopModel", "digit", "(I)I"⟩, prog_9_method_31_code, 2, (Option.some FieldType.int), 6, mc_co mp_149),
  (⟨"SmallerInTheShopModel", "isLine", "([II)Z"⟩, prog_9_method_12_code, 2, (Option.some FieldType.boolean), 6, mc_co mp_150),
  (⟨"SmallerInTheShopModel", "wide", "([II)I"⟩, prog_9_method_11_code, 4, (Option.some FieldType.int), 6, mc_co mp_151),
  (⟨"SmallerInTheShopModel", "folds", "([III)I"⟩, prog_9_method_25_code, 8, (Option.some FieldType.int), 6, mc_co mp_152),
  (⟨"SmallerInTheShopModel", "creases", "([II)I"⟩, prog_9_method_20_code, 9, (Option.some FieldType.int), 6, mc_co mp_153),
  (⟨"SmallerInTheShopModel", "one", "(I)I"⟩, prog_9_method_9_code, 1, (Option.some FieldType.int), 6, mc_co mp_154),
  (⟨"SmallerInTheShopModel", "other", "(I)I"⟩, prog_9_method_10_code, 1, (Option.some FieldType.int), 6, mc_co mp_155),
  (⟨"SmallerInTheShopModel", "effortBy", "([III)I"⟩, prog_9_method_22_code, 6, (Option.some FieldType.int), 6, mc_co mp_156),
  (⟨"SmallerInTheShopModel", "sideOf", "([III)I"⟩, prog_9_method_21_code, 4, (Option.some FieldType.int), 6, mc_co mp_157),
  (⟨"SmallerInTheShopModel", "effortOf", "([III)I"⟩, prog_9_method_8_code, 3, (Option.some FieldType.int), 6, mc_co mp_158),
  (⟨"SmallerInTheShopModel", "effort", "(IIII)I"⟩, prog_9_method_6_code, 5, (Option.some FieldType.int), 6, mc_co mp_159)]
def mc_P4 : List mm_Mt := [(⟨"SmallerInTheShopModel", "keepsAhead", "([II)V"⟩, prog_9_method_23_code, 4, (Option.none : Option FieldType), 6, mc_co mp_160),
  (⟨"SmallerInTheShopModel", "wear", "(III)I"⟩, prog_9_method_7_code, 4, (Option.some FieldType.int), 6, mc_co mp_161),
  (⟨"SmallerInTheShopModel", "lays", "([III)V"⟩, prog_9_method_24_code, 14, (Option.none : Option FieldType), 6, mc_co mp_162),
  (⟨"SmallerInTheShopModel", "isOneCell", "([III)Z"⟩, prog_9_method_13_code, 3, (Option.some FieldType.boolean), 6, mc_co mp_163),
  (⟨"SmallerInTheShopModel", "opened", "([I)V"⟩, prog_9_method_26_code, 3, (Option.none : Option FieldType), 6, mc_co mp_164),
  (⟨"SmallerInTheShopModel", "crease", "(II)I"⟩, prog_9_method_36_code, 3, (Option.some FieldType.int), 6, mc_co mp_165),
  (⟨"SmallerInTheShopModel", "isCrease", "(I)Z"⟩, prog_9_method_34_code, 1, (Option.some FieldType.boolean), 6, mc_co mp_166),
  (⟨"SmallerInTheShopModel", "panel", "(II)I"⟩, prog_9_method_37_code, 3, (Option.some FieldType.int), 6, mc_co mp_167),
  (⟨"SmallerInTheShopModel", "isPanel", "(I)Z"⟩, prog_9_method_35_code, 1, (Option.some FieldType.boolean), 6, mc_co mp_168),
  (⟨"SmallerInTheShopModel", "isRead", "([II)Z"⟩, prog_9_method_16_code, 2, (Option.some FieldType.boolean), 6, mc_co mp_169),
  (⟨"SmallerInTheShopModel", "shows", "([III)Z"⟩, prog_9_method_15_code, 4, (Option.some FieldType.boolean), 6, mc_co mp_170),
  (⟨"SmallerInTheShopModel", "above", "([II)I"⟩, prog_9_method_14_code, 4, (Option.some FieldType.int), 6, mc_co mp_171),
  (⟨"SmallerInTheShopModel", "fold", "(II)I"⟩, prog_9_method_38_code, 3, (Option.some FieldType.int), 6, mc_co mp_172),
  (⟨"SmallerInTheShopModel", "opens", "()I"⟩, prog_9_method_39_code, 1, (Option.some FieldType.int), 6, mc_co mp_173),
  (⟨"SmallerInTheShopModel", "wears", "(II)I"⟩, prog_9_method_40_code, 4, (Option.some FieldType.int), 6, mc_co mp_174),
  (⟨"SmallerInTheShopModel", "turn", "(III)I"⟩, prog_9_method_41_code, 5, (Option.some FieldType.int), 6, mc_co mp_175),
  (⟨"SmallerInTheShopModel", "cover", "(I)I"⟩, prog_9_method_42_code, 3, (Option.some FieldType.int), 6, mc_co mp_176),
  (⟨"SmallerInTheShopModel", "hurts", "(III)I"⟩, prog_9_method_44_code, 5, (Option.some FieldType.int), 6, mc_co mp_177),
  (⟨"SmallerInTheShopModel", "wornAll", "([I)I"⟩, prog_9_method_43_code, 3, (Option.some FieldType.int), 6, mc_co mp_178),
  (⟨"SmallerInTheShopModel", "over", "(II)I"⟩, prog_9_method_45_code, 3, (Option.some FieldType.int), 6, mc_co mp_179),
  (⟨"SmallerInTheShopModel", "wad", "(I)I"⟩, prog_9_method_48_code, 2, (Option.some FieldType.int), 6, mc_co mp_180),
  (⟨"SmallerInTheShopModel", "thickness", "([I)I"⟩, prog_9_method_19_code, 5, (Option.some FieldType.int), 6, mc_co mp_181),
  (⟨"SmallerInTheShopModel", "readSet", "([I)I"⟩, prog_9_method_46_code, 3, (Option.some FieldType.int), 6, mc_co mp_182),
  (⟨"SmallerInTheShopModel", "isOut", "([I)Z"⟩, prog_9_method_17_code, 1, (Option.some FieldType.boolean), 6, mc_co mp_183),
  (⟨"SmallerInTheShopModel", "flat", "()I"⟩, prog_9_method_47_code, 3, (Option.some FieldType.int), 6, mc_co mp_184),
  (⟨"SmallerInTheShopModel", "shut", "(I)I"⟩, prog_9_method_54_code, 2, (Option.some FieldType.int), 6, mc_co mp_185),
  (⟨"SmallerInTheShopModel", "seek", "(III)V"⟩, prog_9_method_53_code, 4, (Option.none : Option FieldType), 6, mc_co mp_186),
  (⟨"SmallerInTheShopModel", "seeks", "(III)V"⟩, prog_9_method_52_code, 7, (Option.none : Option FieldType), 6, mc_co mp_187),
  (⟨"SmallerInTheShopModel", "meets", "([IIII)V"⟩, prog_9_method_51_code, 6, (Option.none : Option FieldType), 6, mc_co mp_188),
  (⟨"SmallerInTheShopModel", "isShut", "([I)Z"⟩, prog_9_method_18_code, 1, (Option.some FieldType.boolean), 6, mc_co mp_189),
  (⟨"SmallerInTheShopModel", "better", "(II)V"⟩, prog_9_method_49_code, 3, (Option.none : Option FieldType), 6, mc_co mp_190),
  (⟨"SmallerInTheShopModel", "isAsTheRow", "([I)Z"⟩, prog_9_method_50_code, 5, (Option.some FieldType.boolean), 6, mc_co mp_191),
  (⟨"SmallerInTheShopModel", "ways", "(I)I"⟩, prog_9_method_55_code, 2, (Option.some FieldType.int), 6, mc_co mp_192),
  (⟨"SmallerInTheShopModel", "up", "(IIII)I"⟩, prog_9_method_56_code, 5, (Option.some FieldType.int), 6, mc_co mp_193),
  (⟨"SmallerInTheShopModel", "most", "(III)I"⟩, prog_9_method_57_code, 4, (Option.some FieldType.int), 6, mc_co mp_194),
  (⟨"SmallerInTheShopModel", "layers", "()I"⟩, prog_9_method_59_code, 1, (Option.some FieldType.int), 6, mc_co mp_195),
  (⟨"SmallerInTheShopModel", "tellsAll", "()Z"⟩, prog_9_method_58_code, 3, (Option.some FieldType.boolean), 6, mc_co mp_196),
  (⟨"SmallerInTheShopModel", "lasts", "(II)I"⟩, prog_9_method_63_code, 3, (Option.some FieldType.int), 6, mc_co mp_197),
  (⟨"SmallerInTheShopModel", "times", "(II)I"⟩, prog_9_method_62_code, 6, (Option.some FieldType.int), 6, mc_co mp_198),
  (⟨"SmallerInTheShopModel", "holes", "([I)I"⟩, prog_9_method_61_code, 3, (Option.some FieldType.int), 6, mc_co mp_199)]
def mc_P5 : List mm_Mt := [(⟨"SmallerInTheShopModel", "wornAt", "([II)I"⟩, prog_9_method_60_code, 2, (Option.some FieldType.int), 6, mc_co mp_200),
  (⟨"SmallerInTheShopModel", "tape", "(II)I"⟩, prog_9_method_64_code, 7, (Option.some FieldType.int), 6, mc_co mp_201),
  (⟨"SmallerInTheShopModel", "first", "(IIII)I"⟩, prog_9_method_66_code, 7, (Option.some FieldType.int), 6, mc_co mp_202),
  (⟨"SmallerInTheShopModel", "both", "(IIII)I"⟩, prog_9_method_65_code, 6, (Option.some FieldType.int), 6, mc_co mp_203),
  (⟨"SmallerInTheShopModel", "hole", "(II)I"⟩, prog_9_method_67_code, 3, (Option.some FieldType.int), 6, mc_co mp_204),
  (⟨"SmallerInTheShopModel", "weakest", "(I)I"⟩, prog_9_method_68_code, 4, (Option.some FieldType.int), 6, mc_co mp_205),
  (⟨"SmallerInTheShopModel", "wind", "(II)J"⟩, prog_9_method_71_code, 12, (Option.some FieldType.long), 6, mc_co mp_206),
  (⟨"SmallerInTheShopModel", "refusedLong", "(I)J"⟩, prog_9_method_4_code, 2, (Option.some FieldType.long), 6, mc_co mp_207),
  (⟨"SmallerInTheShopModel", "goes", "(I)I"⟩, prog_9_method_70_code, 5, (Option.some FieldType.int), 6, mc_co mp_208),
  (⟨"SmallerInTheShopModel", "lowest", "(JJI)J"⟩, prog_9_method_69_code, 11, (Option.some FieldType.long), 6, mc_co mp_209),
  (⟨"SmallerInTheShopModel", "mean", "(I)J"⟩, prog_9_method_72_code, 2, (Option.some FieldType.long), 6, mc_co mp_210),
  (⟨"SmallerInTheShopModel", "whatIs", "(II)I"⟩, prog_9_method_74_code, 6, (Option.some FieldType.int), 6, mc_co mp_211),
  (⟨"SmallerInTheShopModel", "isSo", "(II)Z"⟩, prog_9_method_73_code, 4, (Option.some FieldType.boolean), 6, mc_co mp_212),
  (⟨"SmallerInTheShopModel", "row", "(I)I"⟩, prog_9_method_75_code, 2, (Option.some FieldType.int), 6, mc_co mp_213),
  (⟨"SmallerInTheShopModel", "judge", "()I"⟩, prog_9_method_76_code, 2, (Option.some FieldType.int), 6, mc_co mp_214),
  (⟨"SmallerInTheShopModel", "clear", "()I"⟩, prog_9_method_77_code, 2, (Option.some FieldType.int), 6, mc_co mp_215),
  (⟨"SmallerInTheShopModel", "lots", "(III)I"⟩, prog_9_method_80_code, 7, (Option.some FieldType.int), 6, mc_co mp_216),
  (⟨"SmallerInTheShopModel", "shutsByLot", "()I"⟩, prog_9_method_79_code, 5, (Option.some FieldType.int), 6, mc_co mp_217),
  (⟨"SmallerInTheShopModel", "draw", "(I)I"⟩, prog_9_method_78_code, 2, (Option.some FieldType.int), 6, mc_co mp_218),
  (⟨"SmallerInTheShopModel", "image", "()I"⟩, prog_9_method_81_code, 1, (Option.some FieldType.int), 6, mc_co mp_219),
  (⟨"SmallerInTheShopModel", "on", "()I"⟩, prog_9_method_82_code, 1, (Option.some FieldType.int), 6, mc_co mp_220),
  (⟨"SmallerInTheShopModel", "count", "(I)I"⟩, prog_9_method_83_code, 2, (Option.some FieldType.int), 6, mc_co mp_221)]
def mc_PL : List mm_Mt := mc_P0 ++ (mc_P1 ++ (mc_P2 ++ (mc_P3 ++ (mc_P4 ++ (mc_P5)))))
def mc_P (k : Nat) : Option mm_Mt := mc_PL[k]?
