set_option maxRecDepth 100000 in
theorem mq_120 : mk_Mt (⟨"SmallerInTheShop", "refuseLong", "(I)J"⟩, prog_1_method_36_code, 2, (Option.some FieldType.long), 5, mc_co mp_120) := mk_Mt_ok (j := 778) (by decide +kernel) (by decide +kernel) (by decide +kernel) (by decide +kernel)
set_option maxRecDepth 100000 in
theorem mq_121 : mk_Mt (⟨"SmallerInTheShop", "firstImpossible", "()I"⟩, prog_1_method_50_code, 5, (Option.some FieldType.int), 5, mc_co mp_121) := mk_Mt_ok (j := 783) (by decide +kernel) (by decide +kernel) (by decide +kernel) (by decide +kernel)
set_option maxRecDepth 100000 in
theorem mq_122 : mk_Mt (⟨"SmallerInTheShop", "power", "(JI)J"⟩, prog_1_method_52_code, 6, (Option.some FieldType.long), 5, mc_co mp_122) := mk_Mt_ok (j := 787) (by decide +kernel) (by decide +kernel) (by decide +kernel) (by decide +kernel)
set_option maxRecDepth 100000 in
theorem mq_123 : mk_Mt (⟨"SmallerInTheShop", "isCoverOutBy", "(I)Z"⟩, prog_1_method_51_code, 6, (Option.some FieldType.boolean), 5, mc_co mp_123) := mk_Mt_ok (j := 791) (by decide +kernel) (by decide +kernel) (by decide +kernel) (by decide +kernel)
set_option maxRecDepth 100000 in
theorem mq_124 : mk_Mt (⟨"SmallerInTheShop", "partOfFraction", "(JJI)J"⟩, prog_1_method_53_code, 12, (Option.some FieldType.long), 5, mc_co mp_124) := mk_Mt_ok (j := 794) (by decide +kernel) (by decide +kernel) (by decide +kernel) (by decide +kernel)
set_option maxRecDepth 100000 in
theorem mq_125 : mk_Mt (⟨"SmallerInTheShop", "mean", "(I)J"⟩, prog_1_method_25_code, 2, (Option.some FieldType.long), 5, mc_co mp_125) := mk_Mt_ok (j := 798) (by decide +kernel) (by decide +kernel) (by decide +kernel) (by decide +kernel)
set_option maxRecDepth 100000 in
theorem mq_126 : mk_Mt (⟨"SmallerInTheShop", "whatIs", "(II)I"⟩, prog_1_method_26_code, 3, (Option.some FieldType.int), 5, mc_co mp_126) := mk_Mt_ok (j := 807) (by decide +kernel) (by decide +kernel) (by decide +kernel) (by decide +kernel)
set_option maxRecDepth 100000 in
theorem mq_127 : mk_Mt (⟨"SmallerInTheShop", "kindsThatFit", "(I)I"⟩, prog_1_method_54_code, 4, (Option.some FieldType.int), 5, mc_co mp_127) := mk_Mt_ok (j := 811) (by decide +kernel) (by decide +kernel) (by decide +kernel) (by decide +kernel)
set_option maxRecDepth 100000 in
theorem mq_128 : mk_Mt (⟨"SmallerInTheShop", "fitsAllPairs", "(II)Z"⟩, prog_1_method_56_code, 4, (Option.some FieldType.boolean), 5, mc_co mp_128) := mk_Mt_ok (j := 815) (by decide +kernel) (by decide +kernel) (by decide +kernel) (by decide +kernel)
set_option maxRecDepth 100000 in
theorem mq_129 : mk_Mt (⟨"SmallerInTheShop", "figuresThatFit", "(I)I"⟩, prog_1_method_55_code, 4, (Option.some FieldType.int), 5, mc_co mp_129) := mk_Mt_ok (j := 820) (by decide +kernel) (by decide +kernel) (by decide +kernel) (by decide +kernel)
set_option maxRecDepth 100000 in
theorem mq_130 : mk_Mt (⟨"SmallerInTheShop", "row", "(I)I"⟩, prog_1_method_27_code, 2, (Option.some FieldType.int), 5, mc_co mp_130) := mk_Mt_ok (j := 824) (by decide +kernel) (by decide +kernel) (by decide +kernel) (by decide +kernel)
set_option maxRecDepth 100000 in
theorem mq_131 : mk_Mt (⟨"SmallerInTheShop", "judge", "()I"⟩, prog_1_method_28_code, 2, (Option.some FieldType.int), 5, mc_co mp_131) := mk_Mt_ok (j := 828) (by decide +kernel) (by decide +kernel) (by decide +kernel) (by decide +kernel)
set_option maxRecDepth 100000 in
theorem mq_132 : mk_Mt (⟨"SmallerInTheShop", "clear", "()I"⟩, prog_1_method_29_code, 2, (Option.some FieldType.int), 5, mc_co mp_132) := mk_Mt_ok (j := 832) (by decide +kernel) (by decide +kernel) (by decide +kernel) (by decide +kernel)
set_option maxRecDepth 100000 in
theorem mq_133 : mk_Mt (⟨"SmallerInTheShop", "lots", "(III)I"⟩, prog_1_method_30_code, 7, (Option.some FieldType.int), 5, mc_co mp_133) := mk_Mt_ok (j := 836) (by decide +kernel) (by decide +kernel) (by decide +kernel) (by decide +kernel)
set_option maxRecDepth 100000 in
theorem mq_134 : mk_Mt (⟨"SmallerInTheShop", "shutByLot", "()I"⟩, prog_1_method_57_code, 6, (Option.some FieldType.int), 5, mc_co mp_134) := mk_Mt_ok (j := 840) (by decide +kernel) (by decide +kernel) (by decide +kernel) (by decide +kernel)
set_option maxRecDepth 100000 in
theorem mq_135 : mk_Mt (⟨"SmallerInTheShop", "image", "()I"⟩, prog_1_method_31_code, 1, (Option.some FieldType.int), 5, mc_co mp_135) := mk_Mt_ok (j := 860) (by decide +kernel) (by decide +kernel) (by decide +kernel) (by decide +kernel)
set_option maxRecDepth 100000 in
theorem mq_136 : mk_Mt (⟨"SmallerInTheShop", "on", "()I"⟩, prog_1_method_32_code, 1, (Option.some FieldType.int), 5, mc_co mp_136) := mk_Mt_ok (j := 864) (by decide +kernel) (by decide +kernel) (by decide +kernel) (by decide +kernel)
set_option maxRecDepth 100000 in
theorem mq_137 : mk_Mt (⟨"SmallerInTheShop", "count", "(I)I"⟩, prog_1_method_33_code, 2, (Option.some FieldType.int), 5, mc_co mp_137) := mk_Mt_ok (j := 868) (by decide +kernel) (by decide +kernel) (by decide +kernel) (by decide +kernel)
set_option maxRecDepth 100000 in
theorem mq_138 : mk_Mt (⟨"SmallerInTheShop", "countOfRefusals", "(I)I"⟩, prog_1_method_34_code, 2, (Option.some FieldType.int), 5, mc_co mp_138) := mk_Mt_ok (j := 873) (by decide +kernel) (by decide +kernel) (by decide +kernel) (by decide +kernel)
set_option maxRecDepth 100000 in
theorem mq_139 : mk_Mt (⟨"SmallerInTheShopModel", "<init>", "()V"⟩, prog_9_method_1_code, 2, (Option.none : Option FieldType), 6, mc_co mp_139) := mk_Mt_ok (j := 878) (by decide +kernel) (by decide +kernel) (by decide +kernel) (by decide +kernel)
set_option maxRecDepth 100000 in
theorem mq_140 : mk_Mt (⟨"SmallerInTheShopModel", "letter", "(I)I"⟩, prog_9_method_27_code, 2, (Option.some FieldType.int), 6, mc_co mp_140) := mk_Mt_ok (j := 944) (by decide +kernel) (by decide +kernel) (by decide +kernel) (by decide +kernel)
set_option maxRecDepth 100000 in
theorem mq_141 : mk_Mt (⟨"SmallerInTheShopModel", "refused", "(I)I"⟩, prog_9_method_3_code, 2, (Option.some FieldType.int), 6, mc_co mp_141) := mk_Mt_ok (j := 948) (by decide +kernel) (by decide +kernel) (by decide +kernel) (by decide +kernel)
set_option maxRecDepth 100000 in
theorem mq_142 : mk_Mt (⟨"SmallerInTheShopModel", "map", "()I"⟩, prog_9_method_33_code, 5, (Option.some FieldType.int), 6, mc_co mp_142) := mk_Mt_ok (j := 952) (by decide +kernel) (by decide +kernel) (by decide +kernel) (by decide +kernel)
set_option maxRecDepth 100000 in
theorem mq_143 : mk_Mt (⟨"SmallerInTheShopModel", "faultOf", "(I)I"⟩, prog_9_method_30_code, 5, (Option.some FieldType.int), 6, mc_co mp_143) := mk_Mt_ok (j := 956) (by decide +kernel) (by decide +kernel) (by decide +kernel) (by decide +kernel)
set_option maxRecDepth 100000 in
theorem mq_144 : mk_Mt (⟨"SmallerInTheShopModel", "sizeOf", "(I)I"⟩, prog_9_method_29_code, 1, (Option.some FieldType.int), 6, mc_co mp_144) := mk_Mt_ok (j := 959) (by decide +kernel) (by decide +kernel) (by decide +kernel) (by decide +kernel)
set_option maxRecDepth 100000 in
theorem mq_145 : mk_Mt (⟨"SmallerInTheShopModel", "fits", "(III)Z"⟩, prog_9_method_28_code, 5, (Option.some FieldType.boolean), 6, mc_co mp_145) := mk_Mt_ok (j := 963) (by decide +kernel) (by decide +kernel) (by decide +kernel) (by decide +kernel)
set_option maxRecDepth 100000 in
theorem mq_146 : mk_Mt (⟨"SmallerInTheShopModel", "in", "(JJJ)Z"⟩, prog_9_method_2_code, 6, (Option.some FieldType.boolean), 6, mc_co mp_146) := mk_Mt_ok (j := 969) (by decide +kernel) (by decide +kernel) (by decide +kernel) (by decide +kernel)
set_option maxRecDepth 100000 in
theorem mq_147 : mk_Mt (⟨"SmallerInTheShopModel", "copies", "([I[I)V"⟩, prog_9_method_5_code, 3, (Option.none : Option FieldType), 6, mc_co mp_147) := mk_Mt_ok (j := 972) (by decide +kernel) (by decide +kernel) (by decide +kernel) (by decide +kernel)
set_option maxRecDepth 100000 in
theorem mq_148 : mk_Mt (⟨"SmallerInTheShopModel", "comes", "([II)Z"⟩, prog_9_method_32_code, 4, (Option.some FieldType.boolean), 6, mc_co mp_148) := mk_Mt_ok (j := 976) (by decide +kernel) (by decide +kernel) (by decide +kernel) (by decide +kernel)
set_option maxRecDepth 100000 in
theorem mq_149 : mk_Mt (⟨"SmallerInTheShopModel", "digit", "(I)I"⟩, prog_9_method_31_code, 2, (Option.some FieldType.int), 6, mc_co mp_149) := mk_Mt_ok (j := 980) (by decide +kernel) (by decide +kernel) (by decide +kernel) (by decide +kernel)
set_option maxRecDepth 100000 in
theorem mq_150 : mk_Mt (⟨"SmallerInTheShopModel", "isLine", "([II)Z"⟩, prog_9_method_12_code, 2, (Option.some FieldType.boolean), 6, mc_co mp_150) := mk_Mt_ok (j := 983) (by decide +kernel) (by decide +kernel) (by decide +kernel) (by decide +kernel)
set_option maxRecDepth 100000 in
theorem mq_151 : mk_Mt (⟨"SmallerInTheShopModel", "wide", "([II)I"⟩, prog_9_method_11_code, 4, (Option.some FieldType.int), 6, mc_co mp_151) := mk_Mt_ok (j := 987) (by decide +kernel) (by decide +kernel) (by decide +kernel) (by decide +kernel)
set_option maxRecDepth 100000 in
theorem mq_152 : mk_Mt (⟨"SmallerInTheShopModel", "folds", "([III)I"⟩, prog_9_method_25_code, 8, (Option.some FieldType.int), 6, mc_co mp_152) := mk_Mt_ok (j := 992) (by decide +kernel) (by decide +kernel) (by decide +kernel) (by decide +kernel)
set_option maxRecDepth 100000 in
theorem mq_153 : mk_Mt (⟨"SmallerInTheShopModel", "creases", "([II)I"⟩, prog_9_method_20_code, 9, (Option.some FieldType.int), 6, mc_co mp_153) := mk_Mt_ok (j := 995) (by decide +kernel) (by decide +kernel) (by decide +kernel) (by decide +kernel)
set_option maxRecDepth 100000 in
theorem mq_154 : mk_Mt (⟨"SmallerInTheShopModel", "one", "(I)I"⟩, prog_9_method_9_code, 1, (Option.some FieldType.int), 6, mc_co mp_154) := mk_Mt_ok (j := 998) (by decide +kernel) (by decide +kernel) (by decide +kernel) (by decide +kernel)
set_option maxRecDepth 100000 in
theorem mq_155 : mk_Mt (⟨"SmallerInTheShopModel", "other", "(I)I"⟩, prog_9_method_10_code, 1, (Option.some FieldType.int), 6, mc_co mp_155) := mk_Mt_ok (j := 1001) (by decide +kernel) (by decide +kernel) (by decide +kernel) (by decide +kernel)
set_option maxRecDepth 100000 in
theorem mq_156 : mk_Mt (⟨"SmallerInTheShopModel", "effortBy", "([III)I"⟩, prog_9_method_22_code, 6, (Option.some FieldType.int), 6, mc_co mp_156) := mk_Mt_ok (j := 1005) (by decide +kernel) (by decide +kernel) (by decide +kernel) (by decide +kernel)
set_option maxRecDepth 100000 in
theorem mq_157 : mk_Mt (⟨"SmallerInTheShopModel", "sideOf", "([III)I"⟩, prog_9_method_21_code, 4, (Option.some FieldType.int), 6, mc_co mp_157) := mk_Mt_ok (j := 1008) (by decide +kernel) (by decide +kernel) (by decide +kernel) (by decide +kernel)
set_option maxRecDepth 100000 in
theorem mq_158 : mk_Mt (⟨"SmallerInTheShopModel", "effortOf", "([III)I"⟩, prog_9_method_8_code, 3, (Option.some FieldType.int), 6, mc_co mp_158) := mk_Mt_ok (j := 1011) (by decide +kernel) (by decide +kernel) (by decide +kernel) (by decide +kernel)
set_option maxRecDepth 100000 in
theorem mq_159 : mk_Mt (⟨"SmallerInTheShopModel", "effort", "(IIII)I"⟩, prog_9_method_6_code, 5, (Option.some FieldType.int), 6, mc_co mp_159) := mk_Mt_ok (j := 1014) (by decide +kernel) (by decide +kernel) (by decide +kernel) (by decide +kernel)
theorem mr_3 : ∀ q ∈ mc_P3, mk_Mt q := List.forall_mem_cons.mpr ⟨mq_120, List.forall_mem_cons.mpr ⟨mq_121, List.forall_mem_cons.mpr ⟨mq_122, List.forall_mem_cons.mpr ⟨mq_123, List.forall_mem_cons.mpr ⟨mq_124, List.forall_mem_cons.mpr ⟨mq_125, List.forall_mem_cons.mpr ⟨mq_126, List.forall_mem_cons.mpr ⟨mq_127, List.forall_mem_cons.mpr ⟨mq_128, List.forall_mem_cons.mpr ⟨mq_129, List.forall_mem_cons.mpr ⟨mq_130, List.forall_mem_cons.mpr ⟨mq_131, List.forall_mem_cons.mpr ⟨mq_132, List.forall_mem_cons.mpr ⟨mq_133, List.forall_mem_cons.mpr ⟨mq_134, List.forall_mem_cons.mpr ⟨mq_135, List.forall_mem_cons.mpr ⟨mq_136, List.forall_mem_cons.mpr ⟨mq_137, List.forall_mem_cons.mpr ⟨mq_138, List.forall_mem_cons.mpr ⟨mq_139, List.forall_mem_cons.mpr ⟨mq_140, List.forall_mem_cons.mpr ⟨mq_141, List.forall_mem_cons.mpr ⟨mq_142, List.forall_mem_cons.mpr ⟨mq_143, List.forall_mem_cons.mpr ⟨mq_144, List.forall_mem_cons.mpr ⟨mq_145, List.forall_mem_cons.mpr ⟨mq_146, List.forall_mem_cons.mpr ⟨mq_147, List.forall_mem_cons.mpr ⟨mq_148, List.forall_mem_cons.mpr ⟨mq_149, List.forall_mem_cons.mpr ⟨mq_150, List.forall_mem_cons.mpr ⟨mq_151, List.forall_mem_cons.mpr ⟨mq_152, List.forall_mem_cons.mpr ⟨mq_153, List.forall_mem_cons.mpr ⟨mq_154, List.forall_mem_cons.mpr ⟨mq_155, List.forall_mem_cons.mpr ⟨mq_156, List.forall_mem_cons.mpr ⟨mq_157, List.forall_mem_cons.mpr ⟨mq_158, List.forall_mem_cons.mpr ⟨mq_159, fun _ h => absurd h List.not_mem_nil⟩⟩⟩⟩⟩⟩⟩⟩⟩⟩⟩⟩⟩⟩⟩⟩⟩⟩⟩⟩⟩⟩⟩⟩⟩⟩⟩⟩⟩⟩⟩⟩⟩⟩⟩⟩⟩⟩⟩⟩
