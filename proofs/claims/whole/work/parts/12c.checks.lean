set_option maxRecDepth 100000 in
theorem mq_80 : mk_Mt (⟨"SmallerInTheShop$Sheet", "wornAt", "(I)I"⟩, prog_7_method_14_code, 2, (Option.some FieldType.int), 4, mc_co mp_80) := mk_Mt_ok (j := 745) (by decide +kernel) (by decide +kernel) (by decide +kernel) (by decide +kernel)
set_option maxRecDepth 100000 in
theorem mq_81 : mk_Mt (⟨"SmallerInTheShop$Sheet", "wornOfAll", "()I"⟩, prog_7_method_13_code, 3, (Option.some FieldType.int), 4, mc_co mp_81) := mk_Mt_ok (j := 802) (by decide +kernel) (by decide +kernel) (by decide +kernel) (by decide +kernel)
set_option maxRecDepth 100000 in
theorem mq_82 : mk_Mt (⟨"SmallerInTheShop", "<init>", "()V"⟩, prog_1_method_1_code, 1, (Option.none : Option FieldType), 5, mc_co mp_82) := mk_Mt_ok (j := 74) (by decide +kernel) (by decide +kernel) (by decide +kernel) (by decide +kernel)
set_option maxRecDepth 100000 in
theorem mq_83 : mk_Mt (⟨"SmallerInTheShop", "letter", "(I)I"⟩, prog_1_method_2_code, 2, (Option.some FieldType.int), 5, mc_co mp_83) := mk_Mt_ok (j := 257) (by decide +kernel) (by decide +kernel) (by decide +kernel) (by decide +kernel)
set_option maxRecDepth 100000 in
theorem mq_84 : mk_Mt (⟨"SmallerInTheShop", "refuse", "(I)I"⟩, prog_1_method_35_code, 3, (Option.some FieldType.int), 5, mc_co mp_84) := mk_Mt_ok (j := 261) (by decide +kernel) (by decide +kernel) (by decide +kernel) (by decide +kernel)
set_option maxRecDepth 100000 in
theorem mq_85 : mk_Mt (⟨"SmallerInTheShop", "map", "()I"⟩, prog_1_method_3_code, 3, (Option.some FieldType.int), 5, mc_co mp_85) := mk_Mt_ok (j := 273) (by decide +kernel) (by decide +kernel) (by decide +kernel) (by decide +kernel)
set_option maxRecDepth 100000 in
theorem mq_86 : mk_Mt (⟨"SmallerInTheShop", "doStatements", "()I"⟩, prog_1_method_42_code, 3, (Option.some FieldType.int), 5, mc_co mp_86) := mk_Mt_ok (j := 414) (by decide +kernel) (by decide +kernel) (by decide +kernel) (by decide +kernel)
set_option maxRecDepth 100000 in
theorem mq_87 : mk_Mt (⟨"SmallerInTheShop", "doStatement", "(I)Z"⟩, prog_1_method_43_code, 3, (Option.some FieldType.boolean), 5, mc_co mp_87) := mk_Mt_ok (j := 430) (by decide +kernel) (by decide +kernel) (by decide +kernel) (by decide +kernel)
set_option maxRecDepth 100000 in
theorem mq_88 : mk_Mt (⟨"SmallerInTheShop", "tellKind", "(III)Z"⟩, prog_1_method_44_code, 4, (Option.some FieldType.boolean), 5, mc_co mp_88) := mk_Mt_ok (j := 443) (by decide +kernel) (by decide +kernel) (by decide +kernel) (by decide +kernel)
set_option maxRecDepth 100000 in
theorem mq_89 : mk_Mt (⟨"SmallerInTheShop", "isBelow", "(II)Z"⟩, prog_1_method_38_code, 2, (Option.some FieldType.boolean), 5, mc_co mp_89) := mk_Mt_ok (j := 446) (by decide +kernel) (by decide +kernel) (by decide +kernel) (by decide +kernel)
set_option maxRecDepth 100000 in
theorem mq_90 : mk_Mt (⟨"SmallerInTheShop", "tellWorn", "(II)Z"⟩, prog_1_method_45_code, 3, (Option.some FieldType.boolean), 5, mc_co mp_90) := mk_Mt_ok (j := 450) (by decide +kernel) (by decide +kernel) (by decide +kernel) (by decide +kernel)
set_option maxRecDepth 100000 in
theorem mq_91 : mk_Mt (⟨"SmallerInTheShop", "tellFold", "(II)Z"⟩, prog_1_method_46_code, 3, (Option.some FieldType.boolean), 5, mc_co mp_91) := mk_Mt_ok (j := 454) (by decide +kernel) (by decide +kernel) (by decide +kernel) (by decide +kernel)
set_option maxRecDepth 100000 in
theorem mq_92 : mk_Mt (⟨"SmallerInTheShop", "tellCover", "(I)Z"⟩, prog_1_method_47_code, 2, (Option.some FieldType.boolean), 5, mc_co mp_92) := mk_Mt_ok (j := 545) (by decide +kernel) (by decide +kernel) (by decide +kernel) (by decide +kernel)
set_option maxRecDepth 100000 in
theorem mq_93 : mk_Mt (⟨"SmallerInTheShop", "crease", "(II)I"⟩, prog_1_method_4_code, 3, (Option.some FieldType.int), 5, mc_co mp_93) := mk_Mt_ok (j := 555) (by decide +kernel) (by decide +kernel) (by decide +kernel) (by decide +kernel)
set_option maxRecDepth 100000 in
theorem mq_94 : mk_Mt (⟨"SmallerInTheShop", "panel", "(II)I"⟩, prog_1_method_5_code, 4, (Option.some FieldType.int), 5, mc_co mp_94) := mk_Mt_ok (j := 561) (by decide +kernel) (by decide +kernel) (by decide +kernel) (by decide +kernel)
set_option maxRecDepth 100000 in
theorem mq_95 : mk_Mt (⟨"SmallerInTheShop", "asNumber", "(Z)I"⟩, prog_1_method_41_code, 1, (Option.some FieldType.int), 5, mc_co mp_95) := mk_Mt_ok (j := 572) (by decide +kernel) (by decide +kernel) (by decide +kernel) (by decide +kernel)
set_option maxRecDepth 100000 in
theorem mq_96 : mk_Mt (⟨"SmallerInTheShop", "fold", "(II)I"⟩, prog_1_method_6_code, 4, (Option.some FieldType.int), 5, mc_co mp_96) := mk_Mt_ok (j := 577) (by decide +kernel) (by decide +kernel) (by decide +kernel) (by decide +kernel)
set_option maxRecDepth 100000 in
theorem mq_97 : mk_Mt (⟨"SmallerInTheShop", "refusalOfFold", "(II)I"⟩, prog_1_method_37_code, 3, (Option.some FieldType.int), 5, mc_co mp_97) := mk_Mt_ok (j := 581) (by decide +kernel) (by decide +kernel) (by decide +kernel) (by decide +kernel)
set_option maxRecDepth 100000 in
theorem mq_98 : mk_Mt (⟨"SmallerInTheShop", "opens", "()I"⟩, prog_1_method_7_code, 1, (Option.some FieldType.int), 5, mc_co mp_98) := mk_Mt_ok (j := 585) (by decide +kernel) (by decide +kernel) (by decide +kernel) (by decide +kernel)
set_option maxRecDepth 100000 in
theorem mq_99 : mk_Mt (⟨"SmallerInTheShop", "wears", "(II)I"⟩, prog_1_method_8_code, 4, (Option.some FieldType.int), 5, mc_co mp_99) := mk_Mt_ok (j := 589) (by decide +kernel) (by decide +kernel) (by decide +kernel) (by decide +kernel)
set_option maxRecDepth 100000 in
theorem mq_100 : mk_Mt (⟨"SmallerInTheShop", "turn", "(III)I"⟩, prog_1_method_9_code, 5, (Option.some FieldType.int), 5, mc_co mp_100) := mk_Mt_ok (j := 593) (by decide +kernel) (by decide +kernel) (by decide +kernel) (by decide +kernel)
set_option maxRecDepth 100000 in
theorem mq_101 : mk_Mt (⟨"SmallerInTheShop", "cover", "(I)I"⟩, prog_1_method_10_code, 3, (Option.some FieldType.int), 5, mc_co mp_101) := mk_Mt_ok (j := 597) (by decide +kernel) (by decide +kernel) (by decide +kernel) (by decide +kernel)
set_option maxRecDepth 100000 in
theorem mq_102 : mk_Mt (⟨"SmallerInTheShop", "hurts", "(III)I"⟩, prog_1_method_11_code, 7, (Option.some FieldType.int), 5, mc_co mp_102) := mk_Mt_ok (j := 601) (by decide +kernel) (by decide +kernel) (by decide +kernel) (by decide +kernel)
set_option maxRecDepth 100000 in
theorem mq_103 : mk_Mt (⟨"SmallerInTheShop", "over", "(II)I"⟩, prog_1_method_12_code, 3, (Option.some FieldType.int), 5, mc_co mp_103) := mk_Mt_ok (j := 610) (by decide +kernel) (by decide +kernel) (by decide +kernel) (by decide +kernel)
set_option maxRecDepth 100000 in
theorem mq_104 : mk_Mt (⟨"SmallerInTheShop", "arePair", "(II)Z"⟩, prog_1_method_40_code, 2, (Option.some FieldType.boolean), 5, mc_co mp_104) := mk_Mt_ok (j := 613) (by decide +kernel) (by decide +kernel) (by decide +kernel) (by decide +kernel)
set_option maxRecDepth 100000 in
theorem mq_105 : mk_Mt (⟨"SmallerInTheShop", "wad", "(I)I"⟩, prog_1_method_13_code, 3, (Option.some FieldType.int), 5, mc_co mp_105) := mk_Mt_ok (j := 621) (by decide +kernel) (by decide +kernel) (by decide +kernel) (by decide +kernel)
set_option maxRecDepth 100000 in
theorem mq_106 : mk_Mt (⟨"SmallerInTheShop", "shut", "(I)I"⟩, prog_1_method_14_code, 2, (Option.some FieldType.int), 5, mc_co mp_106) := mk_Mt_ok (j := 642) (by decide +kernel) (by decide +kernel) (by decide +kernel) (by decide +kernel)
set_option maxRecDepth 100000 in
theorem mq_107 : mk_Mt (⟨"SmallerInTheShop", "ways", "(I)I"⟩, prog_1_method_15_code, 2, (Option.some FieldType.int), 5, mc_co mp_107) := mk_Mt_ok (j := 708) (by decide +kernel) (by decide +kernel) (by decide +kernel) (by decide +kernel)
set_option maxRecDepth 100000 in
theorem mq_108 : mk_Mt (⟨"SmallerInTheShop", "up", "(IIII)I"⟩, prog_1_method_16_code, 5, (Option.some FieldType.int), 5, mc_co mp_108) := mk_Mt_ok (j := 716) (by decide +kernel) (by decide +kernel) (by decide +kernel) (by decide +kernel)
set_option maxRecDepth 100000 in
theorem mq_109 : mk_Mt (⟨"SmallerInTheShop", "most", "(III)I"⟩, prog_1_method_17_code, 4, (Option.some FieldType.int), 5, mc_co mp_109) := mk_Mt_ok (j := 720) (by decide +kernel) (by decide +kernel) (by decide +kernel) (by decide +kernel)
set_option maxRecDepth 100000 in
theorem mq_110 : mk_Mt (⟨"SmallerInTheShop", "layers", "()I"⟩, prog_1_method_18_code, 2, (Option.some FieldType.int), 5, mc_co mp_110) := mk_Mt_ok (j := 724) (by decide +kernel) (by decide +kernel) (by decide +kernel) (by decide +kernel)
set_option maxRecDepth 100000 in
theorem mq_111 : mk_Mt (⟨"SmallerInTheShop", "tellsAllPanels", "()Z"⟩, prog_1_method_48_code, 3, (Option.some FieldType.boolean), 5, mc_co mp_111) := mk_Mt_ok (j := 728) (by decide +kernel) (by decide +kernel) (by decide +kernel) (by decide +kernel)
set_option maxRecDepth 100000 in
theorem mq_112 : mk_Mt (⟨"SmallerInTheShop", "lasts", "(II)I"⟩, prog_1_method_19_code, 4, (Option.some FieldType.int), 5, mc_co mp_112) := mk_Mt_ok (j := 732) (by decide +kernel) (by decide +kernel) (by decide +kernel) (by decide +kernel)
set_option maxRecDepth 100000 in
theorem mq_113 : mk_Mt (⟨"SmallerInTheShop", "tape", "(II)I"⟩, prog_1_method_20_code, 9, (Option.some FieldType.int), 5, mc_co mp_113) := mk_Mt_ok (j := 749) (by decide +kernel) (by decide +kernel) (by decide +kernel) (by decide +kernel)
set_option maxRecDepth 100000 in
theorem mq_114 : mk_Mt (⟨"SmallerInTheShop", "first", "(IIII)I"⟩, prog_1_method_21_code, 7, (Option.some FieldType.int), 5, mc_co mp_114) := mk_Mt_ok (j := 753) (by decide +kernel) (by decide +kernel) (by decide +kernel) (by decide +kernel)
set_option maxRecDepth 100000 in
theorem mq_115 : mk_Mt (⟨"SmallerInTheShop", "isLine", "(I)Z"⟩, prog_1_method_39_code, 1, (Option.some FieldType.boolean), 5, mc_co mp_115) := mk_Mt_ok (j := 756) (by decide +kernel) (by decide +kernel) (by decide +kernel) (by decide +kernel)
set_option maxRecDepth 100000 in
theorem mq_116 : mk_Mt (⟨"SmallerInTheShop", "effortOfTwo", "(IIII)I"⟩, prog_1_method_49_code, 7, (Option.some FieldType.int), 5, mc_co mp_116) := mk_Mt_ok (j := 760) (by decide +kernel) (by decide +kernel) (by decide +kernel) (by decide +kernel)
set_option maxRecDepth 100000 in
theorem mq_117 : mk_Mt (⟨"SmallerInTheShop", "hole", "(II)I"⟩, prog_1_method_22_code, 4, (Option.some FieldType.int), 5, mc_co mp_117) := mk_Mt_ok (j := 764) (by decide +kernel) (by decide +kernel) (by decide +kernel) (by decide +kernel)
set_option maxRecDepth 100000 in
theorem mq_118 : mk_Mt (⟨"SmallerInTheShop", "weakest", "(I)I"⟩, prog_1_method_23_code, 4, (Option.some FieldType.int), 5, mc_co mp_118) := mk_Mt_ok (j := 769) (by decide +kernel) (by decide +kernel) (by decide +kernel) (by decide +kernel)
set_option maxRecDepth 100000 in
theorem mq_119 : mk_Mt (⟨"SmallerInTheShop", "wind", "(II)J"⟩, prog_1_method_24_code, 10, (Option.some FieldType.long), 5, mc_co mp_119) := mk_Mt_ok (j := 774) (by decide +kernel) (by decide +kernel) (by decide +kernel) (by decide +kernel)
theorem mr_2 : ∀ q ∈ mc_P2, mk_Mt q := List.forall_mem_cons.mpr ⟨mq_80, List.forall_mem_cons.mpr ⟨mq_81, List.forall_mem_cons.mpr ⟨mq_82, List.forall_mem_cons.mpr ⟨mq_83, List.forall_mem_cons.mpr ⟨mq_84, List.forall_mem_cons.mpr ⟨mq_85, List.forall_mem_cons.mpr ⟨mq_86, List.forall_mem_cons.mpr ⟨mq_87, List.forall_mem_cons.mpr ⟨mq_88, List.forall_mem_cons.mpr ⟨mq_89, List.forall_mem_cons.mpr ⟨mq_90, List.forall_mem_cons.mpr ⟨mq_91, List.forall_mem_cons.mpr ⟨mq_92, List.forall_mem_cons.mpr ⟨mq_93, List.forall_mem_cons.mpr ⟨mq_94, List.forall_mem_cons.mpr ⟨mq_95, List.forall_mem_cons.mpr ⟨mq_96, List.forall_mem_cons.mpr ⟨mq_97, List.forall_mem_cons.mpr ⟨mq_98, List.forall_mem_cons.mpr ⟨mq_99, List.forall_mem_cons.mpr ⟨mq_100, List.forall_mem_cons.mpr ⟨mq_101, List.forall_mem_cons.mpr ⟨mq_102, List.forall_mem_cons.mpr ⟨mq_103, List.forall_mem_cons.mpr ⟨mq_104, List.forall_mem_cons.mpr ⟨mq_105, List.forall_mem_cons.mpr ⟨mq_106, List.forall_mem_cons.mpr ⟨mq_107, List.forall_mem_cons.mpr ⟨mq_108, List.forall_mem_cons.mpr ⟨mq_109, List.forall_mem_cons.mpr ⟨mq_110, List.forall_mem_cons.mpr ⟨mq_111, List.forall_mem_cons.mpr ⟨mq_112, List.forall_mem_cons.mpr ⟨mq_113, List.forall_mem_cons.mpr ⟨mq_114, List.forall_mem_cons.mpr ⟨mq_115, List.forall_mem_cons.mpr ⟨mq_116, List.forall_mem_cons.mpr ⟨mq_117, List.forall_mem_cons.mpr ⟨mq_118, List.forall_mem_cons.mpr ⟨mq_119, fun _ h => absurd h List.not_mem_nil⟩⟩⟩⟩⟩⟩⟩⟩⟩⟩⟩⟩⟩⟩⟩⟩⟩⟩⟩⟩⟩⟩⟩⟩⟩⟩⟩⟩⟩⟩⟩⟩⟩⟩⟩⟩⟩⟩⟩⟩
