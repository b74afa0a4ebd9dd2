set_option maxRecDepth 100000 in
theorem mq_0 : mk_Mt (⟨"java/lang/Integer", "bitCount", "(I)I"⟩, prog_11_method_49_code, 1, (Option.some FieldType.int), 98, mc_co mp_0) := mk_Mt_ok (j := 679) (by decide +kernel) (by decide +kernel) (by decide +kernel) (by decide +kernel)
set_option maxRecDepth 100000 in
theorem mq_1 : mk_Mt (⟨"java/lang/String", "isEmpty", "()Z"⟩, prog_13_method_55_code, 1, (Option.some FieldType.boolean), 99, mc_co mp_1) := mk_Mt_ok (j := 294) (by decide +kernel) (by decide +kernel) (by decide +kernel) (by decide +kernel)
set_option maxRecDepth 100000 in
theorem mq_2 : mk_Mt (⟨"java/lang/String", "length", "()I"⟩, prog_13_method_54_code, 1, (Option.some FieldType.int), 99, mc_co mp_2) := mk_Mt_ok (j := 298) (by decide +kernel) (by decide +kernel) (by decide +kernel) (by decide +kernel)
set_option maxRecDepth 100000 in
theorem mq_3 : mk_Mt (⟨"java/lang/String", "coder", "()B"⟩, prog_13_method_152_code, 1, (Option.some FieldType.byte), 99, mc_co mp_3) := mk_Mt_ok (j := 302) (by decide +kernel) (by decide +kernel) (by decide +kernel) (by decide +kernel)
set_option maxRecDepth 100000 in
theorem mq_4 : mk_Mt (⟨"java/lang/String", "charAt", "(I)C"⟩, prog_13_method_56_code, 2, (Option.some FieldType.char), 99, mc_co mp_4) := mk_Mt_ok (j := 308) (by decide +kernel) (by decide +kernel) (by decide +kernel) (by decide +kernel)
set_option maxRecDepth 100000 in
theorem mq_5 : mk_Mt (⟨"java/lang/String", "isLatin1", "()Z"⟩, prog_13_method_154_code, 1, (Option.some FieldType.boolean), 99, mc_co mp_5) := mk_Mt_ok (j := 312) (by decide +kernel) (by decide +kernel) (by decide +kernel) (by decide +kernel)
set_option maxRecDepth 100000 in
theorem mq_6 : mk_Mt (⟨"java/lang/String", "checkIndex", "(II)V"⟩, prog_13_method_155_code, 2, (Option.none : Option FieldType), 99, mc_co mp_6) := mk_Mt_ok (j := 318) (by decide +kernel) (by decide +kernel) (by decide +kernel) (by decide +kernel)
set_option maxRecDepth 100000 in
theorem mq_7 : mk_Mt (⟨"java/lang/String", "indexOf", "(I)I"⟩, prog_13_method_79_code, 2, (Option.some FieldType.int), 99, mc_co mp_7) := mk_Mt_ok (j := 350) (by decide +kernel) (by decide +kernel) (by decide +kernel) (by decide +kernel)
set_option maxRecDepth 100000 in
theorem mq_8 : mk_Mt (⟨"java/lang/String", "indexOf", "(II)I"⟩, prog_13_method_80_code, 3, (Option.some FieldType.int), 99, mc_co mp_8) := mk_Mt_ok (j := 354) (by decide +kernel) (by decide +kernel) (by decide +kernel) (by decide +kernel)
set_option maxRecDepth 100000 in
theorem mq_9 : mk_Mt (⟨"java/lang/StringLatin1", "charAt", "([BI)C"⟩, prog_14_method_2_code, 2, (Option.some FieldType.char), 98, mc_co mp_9) := mk_Mt_ok (j := 315) (by decide +kernel) (by decide +kernel) (by decide +kernel) (by decide +kernel)
set_option maxRecDepth 100000 in
theorem mq_10 : mk_Mt (⟨"java/lang/StringLatin1", "indexOf", "([BIII)I"⟩, prog_14_method_22_code, 4, (Option.some FieldType.int), 98, mc_co mp_10) := mk_Mt_ok (j := 358) (by decide +kernel) (by decide +kernel) (by decide +kernel) (by decide +kernel)
set_option maxRecDepth 100000 in
theorem mq_11 : mk_Mt (⟨"java/lang/StringLatin1", "canEncode", "(I)Z"⟩, prog_14_method_4_code, 1, (Option.some FieldType.boolean), 98, mc_co mp_11) := mk_Mt_ok (j := 361) (by decide +kernel) (by decide +kernel) (by decide +kernel) (by decide +kernel)
set_option maxRecDepth 100000 in
theorem mq_12 : mk_Mt (⟨"java/lang/StringLatin1", "indexOfChar", "([BIII)I"⟩, prog_14_method_23_code, 6, (Option.some FieldType.int), 98, mc_co mp_12) := mk_Mt_ok (j := 370) (by decide +kernel) (by decide +kernel) (by decide +kernel) (by decide +kernel)
set_option maxRecDepth 100000 in
theorem mq_13 : mk_Mt (⟨"jdk/internal/util/Preconditions", "checkIndex", "(IILjava/util/function/BiFunction;)I"⟩, prog_16_method_11_code, 3, (Option.some FieldType.int), 98, mc_co mp_13) := mk_Mt_ok (j := 323) (by decide +kernel) (by decide +kernel) (by decide +kernel) (by decide +kernel)
set_option maxRecDepth 100000 in
theorem mq_14 : mk_Mt (⟨"SmallerInTheShop$Draws", "<init>", "()V"⟩, prog_2_method_1_code, 1, (Option.none : Option FieldType), 0, mc_co mp_14) := mk_Mt_ok (j := 212) (by decide +kernel) (by decide +kernel) (by decide +kernel) (by decide +kernel)
set_option maxRecDepth 100000 in
theorem mq_15 : mk_Mt (⟨"SmallerInTheShop$Draws", "drawBelow", "(I)I"⟩, prog_2_method_2_code, 2, (Option.some FieldType.int), 0, mc_co mp_15) := mk_Mt_ok (j := 849) (by decide +kernel) (by decide +kernel) (by decide +kernel) (by decide +kernel)
set_option maxRecDepth 100000 in
theorem mq_16 : mk_Mt (⟨"SmallerInTheShop$Kinds", "effort", "(IIII)I"⟩, prog_3_method_2_code, 4, (Option.some FieldType.int), 98, mc_co mp_16) := mk_Mt_ok (j := 512) (by decide +kernel) (by decide +kernel) (by decide +kernel) (by decide +kernel)
set_option maxRecDepth 100000 in
theorem mq_17 : mk_Mt (⟨"SmallerInTheShop$Kinds", "effortAgainst", "(III)I"⟩, prog_3_method_4_code, 3, (Option.some FieldType.int), 98, mc_co mp_17) := mk_Mt_ok (j := 515) (by decide +kernel) (by decide +kernel) (by decide +kernel) (by decide +kernel)
set_option maxRecDepth 100000 in
theorem mq_18 : mk_Mt (⟨"SmallerInTheShop$Kinds", "sprungSide", "(II)I"⟩, prog_3_method_6_code, 2, (Option.some FieldType.int), 98, mc_co mp_18) := mk_Mt_ok (j := 518) (by decide +kernel) (by decide +kernel) (by decide +kernel) (by decide +kernel)
set_option maxRecDepth 100000 in
theorem mq_19 : mk_Mt (⟨"SmallerInTheShop$Kinds", "wear", "(III)I"⟩, prog_3_method_3_code, 3, (Option.some FieldType.int), 98, mc_co mp_19) := mk_Mt_ok (j := 533) (by decide +kernel) (by decide +kernel) (by decide +kernel) (by decide +kernel)
set_option maxRecDepth 100000 in
theorem mq_20 : mk_Mt (⟨"SmallerInTheShop$Kinds", "wearAgainst", "(II)I"⟩, prog_3_method_5_code, 2, (Option.some FieldType.int), 98, mc_co mp_20) := mk_Mt_ok (j := 536) (by decide +kernel) (by decide +kernel) (by decide +kernel) (by decide +kernel)
set_option maxRecDepth 100000 in
theorem mq_21 : mk_Mt (⟨"SmallerInTheShop$Layout", "<init>", "()V"⟩, prog_4_method_1_code, 2, (Option.none : Option FieldType), 1, mc_co mp_21) := mk_Mt_ok (j := 89) (by decide +kernel) (by decide +kernel) (by decide +kernel) (by decide +kernel)
set_option maxRecDepth 100000 in
theorem mq_22 : mk_Mt (⟨"SmallerInTheShop$Layout", "copyLayout", "(LSmallerInTheShop$Layout;)V"⟩, prog_4_method_2_code, 3, (Option.none : Option FieldType), 1, mc_co mp_22) := mk_Mt_ok (j := 426) (by decide +kernel) (by decide +kernel) (by decide +kernel) (by decide +kernel)
set_option maxRecDepth 100000 in
theorem mq_23 : mk_Mt (⟨"SmallerInTheShop$Layout", "hasLine", "(I)Z"⟩, prog_4_method_3_code, 2, (Option.some FieldType.boolean), 1, mc_co mp_23) := mk_Mt_ok (j := 462) (by decide +kernel) (by decide +kernel) (by decide +kernel) (by decide +kernel)
set_option maxRecDepth 100000 in
theorem mq_24 : mk_Mt (⟨"SmallerInTheShop$Layout", "becomeFolded", "(LSmallerInTheShop$Layout;II)V"⟩, prog_4_method_15_code, 7, (Option.none : Option FieldType), 1, mc_co mp_24) := mk_Mt_ok (j := 474) (by decide +kernel) (by decide +kernel) (by decide +kernel) (by decide +kernel)
set_option maxRecDepth 100000 in
theorem mq_25 : mk_Mt (⟨"SmallerInTheShop$Layout", "movePanels", "(LSmallerInTheShop$Layout;ZIZZ)V"⟩, prog_4_method_16_code, 15, (Option.none : Option FieldType), 1, mc_co mp_25) := mk_Mt_ok (j := 478) (by decide +kernel) (by decide +kernel) (by decide +kernel) (by decide +kernel)
set_option maxRecDepth 100000 in
theorem mq_26 : mk_Mt (⟨"SmallerInTheShop$Layout", "heapAt", "(ZII)I"⟩, prog_4_method_20_code, 4, (Option.some FieldType.int), 1, mc_co mp_26) := mk_Mt_ok (j := 484) (by decide +kernel) (by decide +kernel) (by decide +kernel) (by decide +kernel)
set_option maxRecDepth 100000 in
theorem mq_27 : mk_Mt (⟨"SmallerInTheShop$Layout", "countHeaps", "()V"⟩, prog_4_method_19_code, 2, (Option.none : Option FieldType), 1, mc_co mp_27) := mk_Mt_ok (j := 489) (by decide +kernel) (by decide +kernel) (by decide +kernel) (by decide +kernel)
set_option maxRecDepth 100000 in
theorem mq_28 : mk_Mt (⟨"SmallerInTheShop$Layout", "cellOf", "(I)I"⟩, prog_4_method_21_code, 2, (Option.some FieldType.int), 1, mc_co mp_28) := mk_Mt_ok (j := 493) (by decide +kernel) (by decide +kernel) (by decide +kernel) (by decide +kernel)
set_option maxRecDepth 100000 in
theorem mq_29 : mk_Mt (⟨"SmallerInTheShop$Layout", "foldCreases", "(LSmallerInTheShop$Layout;ZIZ)V"⟩, prog_4_method_17_code, 7, (Option.none : Option FieldType), 1, mc_co mp_29) := mk_Mt_ok (j := 497) (by decide +kernel) (by decide +kernel) (by decide +kernel) (by decide +kernel)
set_option maxRecDepth 100000 in
theorem mq_30 : mk_Mt (⟨"SmallerInTheShop$Layout", "liesAcross", "(IZI)Z"⟩, prog_4_method_18_code, 8, (Option.some FieldType.boolean), 1, mc_co mp_30) := mk_Mt_ok (j := 501) (by decide +kernel) (by decide +kernel) (by decide +kernel) (by decide +kernel)
set_option maxRecDepth 100000 in
theorem mq_31 : mk_Mt (⟨"SmallerInTheShop$Layout", "isRead", "(I)Z"⟩, prog_4_method_9_code, 2, (Option.some FieldType.boolean), 1, mc_co mp_31) := mk_Mt_ok (j := 565) (by decide +kernel) (by decide +kernel) (by decide +kernel) (by decide +kernel)
set_option maxRecDepth 100000 in
theorem mq_32 : mk_Mt (⟨"SmallerInTheShop$Layout", "countAbove", "(I)I"⟩, prog_4_method_8_code, 2, (Option.some FieldType.int), 1, mc_co mp_32) := mk_Mt_ok (j := 569) (by decide +kernel) (by decide +kernel) (by decide +kernel) (by decide +kernel)
set_option maxRecDepth 100000 in
theorem mq_33 : mk_Mt (⟨"SmallerInTheShop$Layout", "liesAbove", "(II)Z"⟩, prog_4_method_14_code, 3, (Option.some FieldType.boolean), 1, mc_co mp_33) := mk_Mt_ok (j := 617) (by decide +kernel) (by decide +kernel) (by decide +kernel) (by decide +kernel)
set_option maxRecDepth 100000 in
theorem mq_34 : mk_Mt (⟨"SmallerInTheShop$Layout", "thickness", "()I"⟩, prog_4_method_13_code, 3, (Option.some FieldType.int), 1, mc_co mp_34) := mk_Mt_ok (j := 625) (by decide +kernel) (by decide +kernel) (by decide +kernel) (by decide +kernel)
set_option maxRecDepth 100000 in
theorem mq_35 : mk_Mt (⟨"SmallerInTheShop$Layout", "readPanels", "()I"⟩, prog_4_method_11_code, 3, (Option.some FieldType.int), 1, mc_co mp_35) := mk_Mt_ok (j := 629) (by decide +kernel) (by decide +kernel) (by decide +kernel) (by decide +kernel)
set_option maxRecDepth 100000 in
theorem mq_36 : mk_Mt (⟨"SmallerInTheShop$Layout", "showsBack", "(I)Z"⟩, prog_4_method_10_code, 2, (Option.some FieldType.boolean), 1, mc_co mp_36) := mk_Mt_ok (j := 634) (by decide +kernel) (by decide +kernel) (by decide +kernel) (by decide +kernel)
set_option maxRecDepth 100000 in
theorem mq_37 : mk_Mt (⟨"SmallerInTheShop$Layout", "foldedCreases", "()I"⟩, prog_4_method_12_code, 3, (Option.some FieldType.int), 1, mc_co mp_37) := mk_Mt_ok (j := 638) (by decide +kernel) (by decide +kernel) (by decide +kernel) (by decide +kernel)
set_option maxRecDepth 100000 in
theorem mq_38 : mk_Mt (⟨"SmallerInTheShop$Layout", "cells", "()I"⟩, prog_4_method_6_code, 1, (Option.some FieldType.int), 1, mc_co mp_38) := mk_Mt_ok (j := 662) (by decide +kernel) (by decide +kernel) (by decide +kernel) (by decide +kernel)
set_option maxRecDepth 100000 in
theorem mq_39 : mk_Mt (⟨"SmallerInTheShop$Layout", "isShut", "()Z"⟩, prog_4_method_7_code, 1, (Option.some FieldType.boolean), 1, mc_co mp_39) := mk_Mt_ok (j := 667) (by decide +kernel) (by decide +kernel) (by decide +kernel) (by decide +kernel)
theorem mr_0 : ∀ q ∈ mc_P0, mk_Mt q := List.forall_mem_cons.mpr ⟨mq_0, List.forall_mem_cons.mpr ⟨mq_1, List.forall_mem_cons.mpr ⟨mq_2, List.forall_mem_cons.mpr ⟨mq_3, List.forall_mem_cons.mpr ⟨mq_4, List.forall_mem_cons.mpr ⟨mq_5, List.forall_mem_cons.mpr ⟨mq_6, List.forall_mem_cons.mpr ⟨mq_7, List.forall_mem_cons.mpr ⟨mq_8, List.forall_mem_cons.mpr ⟨mq_9, List.forall_mem_cons.mpr ⟨mq_10, List.forall_mem_cons.mpr ⟨mq_11, List.forall_mem_cons.mpr ⟨mq_12, List.forall_mem_cons.mpr ⟨mq_13, List.forall_mem_cons.mpr ⟨mq_14, List.forall_mem_cons.mpr ⟨mq_15, List.forall_mem_cons.mpr ⟨mq_16, List.forall_mem_cons.mpr ⟨mq_17, List.forall_mem_cons.mpr ⟨mq_18, List.forall_mem_cons.mpr ⟨mq_19, List.forall_mem_cons.mpr ⟨mq_20, List.forall_mem_cons.mpr ⟨mq_21, List.forall_mem_cons.mpr ⟨mq_22, List.forall_mem_cons.mpr ⟨mq_23, List.forall_mem_cons.mpr ⟨mq_24, List.forall_mem_cons.mpr ⟨mq_25, List.forall_mem_cons.mpr ⟨mq_26, List.forall_mem_cons.mpr ⟨mq_27, List.forall_mem_cons.mpr ⟨mq_28, List.forall_mem_cons.mpr ⟨mq_29, List.forall_mem_cons.mpr ⟨mq_30, List.forall_mem_cons.mpr ⟨mq_31, List.forall_mem_cons.mpr ⟨mq_32, List.forall_mem_cons.mpr ⟨mq_33, List.forall_mem_cons.mpr ⟨mq_34, List.forall_mem_cons.mpr ⟨mq_35, List.forall_mem_cons.mpr ⟨mq_36, List.forall_mem_cons.mpr ⟨mq_37, List.forall_mem_cons.mpr ⟨mq_38, List.forall_mem_cons.mpr ⟨mq_39, fun _ h => absurd h List.not_mem_nil⟩⟩⟩⟩⟩⟩⟩⟩⟩⟩⟩⟩⟩⟩⟩⟩⟩⟩⟩⟩⟩⟩⟩⟩⟩⟩⟩⟩⟩⟩⟩⟩⟩⟩⟩⟩⟩⟩⟩⟩
