set_option maxRecDepth 100000 in
theorem mq_40 : mk_Mt (⟨"SmallerInTheShop$Layout", "countLines", "()I"⟩, prog_4_method_4_code, 1, (Option.some FieldType.int), 1, mc_co mp_40) := mk_Mt_ok (j := 845) (by decide +kernel) (by decide +kernel) (by decide +kernel) (by decide +kernel)
set_option maxRecDepth 100000 in
theorem mq_41 : mk_Mt (⟨"SmallerInTheShop$Layout", "lineOfNumber", "(I)I"⟩, prog_4_method_5_code, 2, (Option.some FieldType.int), 1, mc_co mp_41) := mk_Mt_ok (j := 856) (by decide +kernel) (by decide +kernel) (by decide +kernel) (by decide +kernel)
set_option maxRecDepth 100000 in
theorem mq_42 : mk_Mt (⟨"SmallerInTheShop$Letters", "<init>", "()V"⟩, prog_5_method_1_code, 1, (Option.none : Option FieldType), 2, mc_co mp_42) := mk_Mt_ok (j := 198) (by decide +kernel) (by decide +kernel) (by decide +kernel) (by decide +kernel)
set_option maxRecDepth 100000 in
theorem mq_43 : mk_Mt (⟨"SmallerInTheShop$Letters", "isFull", "()Z"⟩, prog_5_method_2_code, 1, (Option.some FieldType.boolean), 2, mc_co mp_43) := mk_Mt_ok (j := 265) (by decide +kernel) (by decide +kernel) (by decide +kernel) (by decide +kernel)
set_option maxRecDepth 100000 in
theorem mq_44 : mk_Mt (⟨"SmallerInTheShop$Letters", "addLetter", "(I)I"⟩, prog_5_method_3_code, 2, (Option.some FieldType.int), 2, mc_co mp_44) := mk_Mt_ok (j := 269) (by decide +kernel) (by decide +kernel) (by decide +kernel) (by decide +kernel)
set_option maxRecDepth 100000 in
theorem mq_45 : mk_Mt (⟨"SmallerInTheShop$Letters", "firstWrongPlace", "()I"⟩, prog_5_method_9_code, 5, (Option.some FieldType.int), 2, mc_co mp_45) := mk_Mt_ok (j := 277) (by decide +kernel) (by decide +kernel) (by decide +kernel) (by decide +kernel)
set_option maxRecDepth 100000 in
theorem mq_46 : mk_Mt (⟨"SmallerInTheShop$Letters", "signAt", "(I)I"⟩, prog_5_method_5_code, 2, (Option.some FieldType.int), 2, mc_co mp_46) := mk_Mt_ok (j := 281) (by decide +kernel) (by decide +kernel) (by decide +kernel) (by decide +kernel)
set_option maxRecDepth 100000 in
theorem mq_47 : mk_Mt (⟨"SmallerInTheShop$Letters", "shapeBehind", "(I)Ljava/lang/String;"⟩, prog_5_method_10_code, 1, (Option.some (FieldType.object "java/lang/String")), 2, mc_co mp_47) := mk_Mt_ok (j := 284) (by decide +kernel) (by decide +kernel) (by decide +kernel) (by decide +kernel)
set_option maxRecDepth 100000 in
theorem mq_48 : mk_Mt (⟨"SmallerInTheShop$Letters", "fits", "(IC)Z"⟩, prog_5_method_11_code, 2, (Option.some FieldType.boolean), 2, mc_co mp_48) := mk_Mt_ok (j := 345) (by decide +kernel) (by decide +kernel) (by decide +kernel) (by decide +kernel)
set_option maxRecDepth 100000 in
theorem mq_49 : mk_Mt (⟨"SmallerInTheShop$Letters", "lengthBehind", "(I)I"⟩, prog_5_method_8_code, 2, (Option.some FieldType.int), 2, mc_co mp_49) := mk_Mt_ok (j := 410) (by decide +kernel) (by decide +kernel) (by decide +kernel) (by decide +kernel)
set_option maxRecDepth 100000 in
theorem mq_50 : mk_Mt (⟨"SmallerInTheShop$Letters", "digitAt", "(I)I"⟩, prog_5_method_6_code, 2, (Option.some FieldType.int), 2, mc_co mp_50) := mk_Mt_ok (j := 434) (by decide +kernel) (by decide +kernel) (by decide +kernel) (by decide +kernel)
set_option maxRecDepth 100000 in
theorem mq_51 : mk_Mt (⟨"SmallerInTheShop$Letters", "kindAt", "(I)I"⟩, prog_5_method_7_code, 2, (Option.some FieldType.int), 2, mc_co mp_51) := mk_Mt_ok (j := 439) (by decide +kernel) (by decide +kernel) (by decide +kernel) (by decide +kernel)
set_option maxRecDepth 100000 in
theorem mq_52 : mk_Mt (⟨"SmallerInTheShop$Letters", "forget", "()V"⟩, prog_5_method_4_code, 1, (Option.none : Option FieldType), 2, mc_co mp_52) := mk_Mt_ok (j := 550) (by decide +kernel) (by decide +kernel) (by decide +kernel) (by decide +kernel)
set_option maxRecDepth 100000 in
theorem mq_53 : mk_Mt (⟨"SmallerInTheShop$Search", "<init>", "()V"⟩, prog_6_method_1_code, 1, (Option.none : Option FieldType), 3, mc_co mp_53) := mk_Mt_ok (j := 163) (by decide +kernel) (by decide +kernel) (by decide +kernel) (by decide +kernel)
set_option maxRecDepth 100000 in
theorem mq_54 : mk_Mt (⟨"SmallerInTheShop$Search", "begin", "(I)V"⟩, prog_6_method_2_code, 3, (Option.none : Option FieldType), 3, mc_co mp_54) := mk_Mt_ok (j := 646) (by decide +kernel) (by decide +kernel) (by decide +kernel) (by decide +kernel)
set_option maxRecDepth 100000 in
theorem mq_55 : mk_Mt (⟨"SmallerInTheShop$Search", "run", "(LSmallerInTheShop$Sheet;)V"⟩, prog_6_method_3_code, 2, (Option.none : Option FieldType), 3, mc_co mp_55) := mk_Mt_ok (j := 650) (by decide +kernel) (by decide +kernel) (by decide +kernel) (by decide +kernel)
set_option maxRecDepth 100000 in
theorem mq_56 : mk_Mt (⟨"SmallerInTheShop$Search", "explore", "(LSmallerInTheShop$Sheet;III)V"⟩, prog_6_method_7_code, 10, (Option.none : Option FieldType), 3, mc_co mp_56) := mk_Mt_ok (j := 654) (by decide +kernel) (by decide +kernel) (by decide +kernel) (by decide +kernel)
set_option maxRecDepth 100000 in
theorem mq_57 : mk_Mt (⟨"SmallerInTheShop$Search", "isReached", "(LSmallerInTheShop$Sheet;LSmallerInTheShop$Layout;)Z"⟩, prog_6_method_10_code, 3, (Option.some FieldType.boolean), 3, mc_co mp_57) := mk_Mt_ok (j := 658) (by decide +kernel) (by decide +kernel) (by decide +kernel) (by decide +kernel)
set_option maxRecDepth 100000 in
theorem mq_58 : mk_Mt (⟨"SmallerInTheShop$Search", "liesAsWanted", "(LSmallerInTheShop$Layout;)Z"⟩, prog_6_method_11_code, 3, (Option.some FieldType.boolean), 3, mc_co mp_58) := mk_Mt_ok (j := 671) (by decide +kernel) (by decide +kernel) (by decide +kernel) (by decide +kernel)
set_option maxRecDepth 100000 in
theorem mq_59 : mk_Mt (⟨"SmallerInTheShop$Search", "costOf", "(LSmallerInTheShop$Layout;II)I"⟩, prog_6_method_12_code, 4, (Option.some FieldType.int), 3, mc_co mp_59) := mk_Mt_ok (j := 676) (by decide +kernel) (by decide +kernel) (by decide +kernel) (by decide +kernel)
set_option maxRecDepth 100000 in
theorem mq_60 : mk_Mt (⟨"SmallerInTheShop$Search", "offer", "(II)V"⟩, prog_6_method_13_code, 3, (Option.none : Option FieldType), 3, mc_co mp_60) := mk_Mt_ok (j := 686) (by decide +kernel) (by decide +kernel) (by decide +kernel) (by decide +kernel)
set_option maxRecDepth 100000 in
theorem mq_61 : mk_Mt (⟨"SmallerInTheShop$Search", "isHopeless", "(I)Z"⟩, prog_6_method_9_code, 3, (Option.some FieldType.boolean), 3, mc_co mp_61) := mk_Mt_ok (j := 690) (by decide +kernel) (by decide +kernel) (by decide +kernel) (by decide +kernel)
set_option maxRecDepth 100000 in
theorem mq_62 : mk_Mt (⟨"SmallerInTheShop$Search", "waysToTry", "(LSmallerInTheShop$Layout;)I"⟩, prog_6_method_8_code, 2, (Option.some FieldType.int), 3, mc_co mp_62) := mk_Mt_ok (j := 694) (by decide +kernel) (by decide +kernel) (by decide +kernel) (by decide +kernel)
set_option maxRecDepth 100000 in
theorem mq_63 : mk_Mt (⟨"SmallerInTheShop$Search", "wayFound", "()I"⟩, prog_6_method_4_code, 1, (Option.some FieldType.int), 3, mc_co mp_63) := mk_Mt_ok (j := 700) (by decide +kernel) (by decide +kernel) (by decide +kernel) (by decide +kernel)
set_option maxRecDepth 100000 in
theorem mq_64 : mk_Mt (⟨"SmallerInTheShop$Search", "costFound", "()I"⟩, prog_6_method_5_code, 1, (Option.some FieldType.int), 3, mc_co mp_64) := mk_Mt_ok (j := 704) (by decide +kernel) (by decide +kernel) (by decide +kernel) (by decide +kernel)
set_option maxRecDepth 100000 in
theorem mq_65 : mk_Mt (⟨"SmallerInTheShop$Search", "waysWith", "(I)I"⟩, prog_6_method_6_code, 2, (Option.some FieldType.int), 3, mc_co mp_65) := mk_Mt_ok (j := 712) (by decide +kernel) (by decide +kernel) (by decide +kernel) (by decide +kernel)
set_option maxRecDepth 100000 in
theorem mq_66 : mk_Mt (⟨"SmallerInTheShop$Sheet", "<init>", "()V"⟩, prog_7_method_1_code, 2, (Option.none : Option FieldType), 4, mc_co mp_66) := mk_Mt_ok (j := 82) (by decide +kernel) (by decide +kernel) (by decide +kernel) (by decide +kernel)
set_option maxRecDepth 100000 in
theorem mq_67 : mk_Mt (⟨"SmallerInTheShop$Sheet", "copyFrom", "(LSmallerInTheShop$Sheet;)V"⟩, prog_7_method_2_code, 3, (Option.none : Option FieldType), 4, mc_co mp_67) := mk_Mt_ok (j := 418) (by decide +kernel) (by decide +kernel) (by decide +kernel) (by decide +kernel)
set_option maxRecDepth 100000 in
theorem mq_68 : mk_Mt (⟨"SmallerInTheShop$Sheet", "copyCreasesFrom", "(LSmallerInTheShop$Sheet;)V"⟩, prog_7_method_3_code, 3, (Option.none : Option FieldType), 4, mc_co mp_68) := mk_Mt_ok (j := 422) (by decide +kernel) (by decide +kernel) (by decide +kernel) (by decide +kernel)
set_option maxRecDepth 100000 in
theorem mq_69 : mk_Mt (⟨"SmallerInTheShop$Sheet", "canFold", "(II)Z"⟩, prog_7_method_5_code, 3, (Option.some FieldType.boolean), 4, mc_co mp_69) := mk_Mt_ok (j := 458) (by decide +kernel) (by decide +kernel) (by decide +kernel) (by decide +kernel)
set_option maxRecDepth 100000 in
theorem mq_70 : mk_Mt (⟨"SmallerInTheShop$Sheet", "makeFold", "(II)I"⟩, prog_7_method_7_code, 4, (Option.some FieldType.int), 4, mc_co mp_70) := mk_Mt_ok (j := 466) (by decide +kernel) (by decide +kernel) (by decide +kernel) (by decide +kernel)
set_option maxRecDepth 100000 in
theorem mq_71 : mk_Mt (⟨"SmallerInTheShop$Sheet", "tryFold", "(III)I"⟩, prog_7_method_6_code, 7, (Option.some FieldType.int), 4, mc_co mp_71) := mk_Mt_ok (j := 470) (by decide +kernel) (by decide +kernel) (by decide +kernel) (by decide +kernel)
set_option maxRecDepth 100000 in
theorem mq_72 : mk_Mt (⟨"SmallerInTheShop$Sheet", "effortOn", "(II)I"⟩, prog_7_method_9_code, 3, (Option.some FieldType.int), 4, mc_co mp_72) := mk_Mt_ok (j := 509) (by decide +kernel) (by decide +kernel) (by decide +kernel) (by decide +kernel)
set_option maxRecDepth 100000 in
theorem mq_73 : mk_Mt (⟨"SmallerInTheShop$Sheet", "top", "()LSmallerInTheShop$Layout;"⟩, prog_7_method_4_code, 1, (Option.some (FieldType.object "SmallerInTheShop$Layout")), 4, mc_co mp_73) := mk_Mt_ok (j := 522) (by decide +kernel) (by decide +kernel) (by decide +kernel) (by decide +kernel)
set_option maxRecDepth 100000 in
theorem mq_74 : mk_Mt (⟨"SmallerInTheShop$Sheet", "wearDown", "(LSmallerInTheShop$Layout;)V"⟩, prog_7_method_11_code, 3, (Option.none : Option FieldType), 4, mc_co mp_74) := mk_Mt_ok (j := 526) (by decide +kernel) (by decide +kernel) (by decide +kernel) (by decide +kernel)
set_option maxRecDepth 100000 in
theorem mq_75 : mk_Mt (⟨"SmallerInTheShop$Sheet", "wornBehind", "(ILSmallerInTheShop$Layout;)I"⟩, prog_7_method_12_code, 4, (Option.some FieldType.int), 4, mc_co mp_75) := mk_Mt_ok (j := 530) (by decide +kernel) (by decide +kernel) (by decide +kernel) (by decide +kernel)
set_option maxRecDepth 100000 in
theorem mq_76 : mk_Mt (⟨"SmallerInTheShop$Sheet", "openLast", "()Z"⟩, prog_7_method_8_code, 1, (Option.some FieldType.boolean), 4, mc_co mp_76) := mk_Mt_ok (j := 541) (by decide +kernel) (by decide +kernel) (by decide +kernel) (by decide +kernel)
set_option maxRecDepth 100000 in
theorem mq_77 : mk_Mt (⟨"SmallerInTheShop$Sheet", "wearOf", "(LSmallerInTheShop$Layout;)I"⟩, prog_7_method_10_code, 4, (Option.some FieldType.int), 4, mc_co mp_77) := mk_Mt_ok (j := 606) (by decide +kernel) (by decide +kernel) (by decide +kernel) (by decide +kernel)
set_option maxRecDepth 100000 in
theorem mq_78 : mk_Mt (⟨"SmallerInTheShop$Sheet", "lastsUnder", "(LSmallerInTheShop$Layout;)I"⟩, prog_7_method_16_code, 4, (Option.some FieldType.int), 4, mc_co mp_78) := mk_Mt_ok (j := 737) (by decide +kernel) (by decide +kernel) (by decide +kernel) (by decide +kernel)
set_option maxRecDepth 100000 in
theorem mq_79 : mk_Mt (⟨"SmallerInTheShop$Sheet", "holes", "()I"⟩, prog_7_method_15_code, 3, (Option.some FieldType.int), 4, mc_co mp_79) := mk_Mt_ok (j := 741) (by decide +kernel) (by decide +kernel) (by decide +kernel) (by decide +kernel)
theorem mr_1 : ∀ q ∈ mc_P1, mk_Mt q := List.forall_mem_cons.mpr ⟨mq_40, List.forall_mem_cons.mpr ⟨mq_41, List.forall_mem_cons.mpr ⟨mq_42, List.forall_mem_cons.mpr ⟨mq_43, List.forall_mem_cons.mpr ⟨mq_44, List.forall_mem_cons.mpr ⟨mq_45, List.forall_mem_cons.mpr ⟨mq_46, List.forall_mem_cons.mpr ⟨mq_47, List.forall_mem_cons.mpr ⟨mq_48, List.forall_mem_cons.mpr ⟨mq_49, List.forall_mem_cons.mpr ⟨mq_50, List.forall_mem_cons.mpr ⟨mq_51, List.forall_mem_cons.mpr ⟨mq_52, List.forall_mem_cons.mpr ⟨mq_53, List.forall_mem_cons.mpr ⟨mq_54, List.forall_mem_cons.mpr ⟨mq_55, List.forall_mem_cons.mpr ⟨mq_56, List.forall_mem_cons.mpr ⟨mq_57, List.forall_mem_cons.mpr ⟨mq_58, List.forall_mem_cons.mpr ⟨mq_59, List.forall_mem_cons.mpr ⟨mq_60, List.forall_mem_cons.mpr ⟨mq_61, List.forall_mem_cons.mpr ⟨mq_62, List.forall_mem_cons.mpr ⟨mq_63, List.forall_mem_cons.mpr ⟨mq_64, List.forall_mem_cons.mpr ⟨mq_65, List.forall_mem_cons.mpr ⟨mq_66, List.forall_mem_cons.mpr ⟨mq_67, List.forall_mem_cons.mpr ⟨mq_68, List.forall_mem_cons.mpr ⟨mq_69, List.forall_mem_cons.mpr ⟨mq_70, List.forall_mem_cons.mpr ⟨mq_71, List.forall_mem_cons.mpr ⟨mq_72, List.forall_mem_cons.mpr ⟨mq_73, List.forall_mem_cons.mpr ⟨mq_74, List.forall_mem_cons.mpr ⟨mq_75, List.forall_mem_cons.mpr ⟨mq_76, List.forall_mem_cons.mpr ⟨mq_77, List.forall_mem_cons.mpr ⟨mq_78, List.forall_mem_cons.mpr ⟨mq_79, fun _ h => absurd h List.not_mem_nil⟩⟩⟩⟩⟩⟩⟩⟩⟩⟩⟩⟩⟩⟩⟩⟩⟩⟩⟩⟩⟩⟩⟩⟩⟩⟩⟩⟩⟩⟩⟩⟩⟩⟩⟩⟩⟩⟩⟩⟩
