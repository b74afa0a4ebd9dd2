set_option maxRecDepth 100000 in
theorem mq_200 : mk_Mt (⟨"SmallerInTheShopModel", "wornAt", "([II)I"⟩, prog_9_method_60_code, 2, (Option.some FieldType.int), 6, mc_co mp_200) := mk_Mt_ok (j := 1170) (by decide +kernel) (by decide +kernel) (by decide +kernel) (by decide +kernel)
set_option maxRecDepth 100000 in
theorem mq_201 : mk_Mt (⟨"SmallerInTheShopModel", "tape", "(II)I"⟩, prog_9_method_64_code, 7, (Option.some FieldType.int), 6, mc_co mp_201) := mk_Mt_ok (j := 1174) (by decide +kernel) (by decide +kernel) (by decide +kernel) (by decide +kernel)
set_option maxRecDepth 100000 in
theorem mq_202 : mk_Mt (⟨"SmallerInTheShopModel", "first", "(IIII)I"⟩, prog_9_method_66_code, 7, (Option.some FieldType.int), 6, mc_co mp_202) := mk_Mt_ok (j := 1178) (by decide +kernel) (by decide +kernel) (by decide +kernel) (by decide +kernel)
set_option maxRecDepth 100000 in
theorem mq_203 : mk_Mt (⟨"SmallerInTheShopModel", "both", "(IIII)I"⟩, prog_9_method_65_code, 6, (Option.some FieldType.int), 6, mc_co mp_203) := mk_Mt_ok (j := 1182) (by decide +kernel) (by decide +kernel) (by decide +kernel) (by decide +kernel)
set_option maxRecDepth 100000 in
theorem mq_204 : mk_Mt (⟨"SmallerInTheShopModel", "hole", "(II)I"⟩, prog_9_method_67_code, 3, (Option.some FieldType.int), 6, mc_co mp_204) := mk_Mt_ok (j := 1186) (by decide +kernel) (by decide +kernel) (by decide +kernel) (by decide +kernel)
set_option maxRecDepth 100000 in
theorem mq_205 : mk_Mt (⟨"SmallerInTheShopModel", "weakest", "(I)I"⟩, prog_9_method_68_code, 4, (Option.some FieldType.int), 6, mc_co mp_205) := mk_Mt_ok (j := 1190) (by decide +kernel) (by decide +kernel) (by decide +kernel) (by decide +kernel)
set_option maxRecDepth 100000 in
theorem mq_206 : mk_Mt (⟨"SmallerInTheShopModel", "wind", "(II)J"⟩, prog_9_method_71_code, 12, (Option.some FieldType.long), 6, mc_co mp_206) := mk_Mt_ok (j := 1194) (by decide +kernel) (by decide +kernel) (by decide +kernel) (by decide +kernel)
set_option maxRecDepth 100000 in
theorem mq_207 : mk_Mt (⟨"SmallerInTheShopModel", "refusedLong", "(I)J"⟩, prog_9_method_4_code, 2, (Option.some FieldType.long), 6, mc_co mp_207) := mk_Mt_ok (j := 1199) (by decide +kernel) (by decide +kernel) (by decide +kernel) (by decide +kernel)
set_option maxRecDepth 100000 in
theorem mq_208 : mk_Mt (⟨"SmallerInTheShopModel", "goes", "(I)I"⟩, prog_9_method_70_code, 5, (Option.some FieldType.int), 6, mc_co mp_208) := mk_Mt_ok (j := 1204) (by decide +kernel) (by decide +kernel) (by decide +kernel) (by decide +kernel)
set_option maxRecDepth 100000 in
theorem mq_209 : mk_Mt (⟨"SmallerInTheShopModel", "lowest", "(JJI)J"⟩, prog_9_method_69_code, 11, (Option.some FieldType.long), 6, mc_co mp_209) := mk_Mt_ok (j := 1207) (by decide +kernel) (by decide +kernel) (by decide +kernel) (by decide +kernel)
set_option maxRecDepth 100000 in
theorem mq_210 : mk_Mt (⟨"SmallerInTheShopModel", "mean", "(I)J"⟩, prog_9_method_72_code, 2, (Option.some FieldType.long), 6, mc_co mp_210) := mk_Mt_ok (j := 1211) (by decide +kernel) (by decide +kernel) (by decide +kernel) (by decide +kernel)
set_option maxRecDepth 100000 in
theorem mq_211 : mk_Mt (⟨"SmallerInTheShopModel", "whatIs", "(II)I"⟩, prog_9_method_74_code, 6, (Option.some FieldType.int), 6, mc_co mp_211) := mk_Mt_ok (j := 1216) (by decide +kernel) (by decide +kernel) (by decide +kernel) (by decide +kernel)
set_option maxRecDepth 100000 in
theorem mq_212 : mk_Mt (⟨"SmallerInTheShopModel", "isSo", "(II)Z"⟩, prog_9_method_73_code, 4, (Option.some FieldType.boolean), 6, mc_co mp_212) := mk_Mt_ok (j := 1220) (by decide +kernel) (by decide +kernel) (by decide +kernel) (by decide +kernel)
set_option maxRecDepth 100000 in
theorem mq_213 : mk_Mt (⟨"SmallerInTheShopModel", "row", "(I)I"⟩, prog_9_method_75_code, 2, (Option.some FieldType.int), 6, mc_co mp_213) := mk_Mt_ok (j := 1224) (by decide +kernel) (by decide +kernel) (by decide +kernel) (by decide +kernel)
set_option maxRecDepth 100000 in
theorem mq_214 : mk_Mt (⟨"SmallerInTheShopModel", "judge", "()I"⟩, prog_9_method_76_code, 2, (Option.some FieldType.int), 6, mc_co mp_214) := mk_Mt_ok (j := 1228) (by decide +kernel) (by decide +kernel) (by decide +kernel) (by decide +kernel)
set_option maxRecDepth 100000 in
theorem mq_215 : mk_Mt (⟨"SmallerInTheShopModel", "clear", "()I"⟩, prog_9_method_77_code, 2, (Option.some FieldType.int), 6, mc_co mp_215) := mk_Mt_ok (j := 1232) (by decide +kernel) (by decide +kernel) (by decide +kernel) (by decide +kernel)
set_option maxRecDepth 100000 in
theorem mq_216 : mk_Mt (⟨"SmallerInTheShopModel", "lots", "(III)I"⟩, prog_9_method_80_code, 7, (Option.some FieldType.int), 6, mc_co mp_216) := mk_Mt_ok (j := 1236) (by decide +kernel) (by decide +kernel) (by decide +kernel) (by decide +kernel)
set_option maxRecDepth 100000 in
theorem mq_217 : mk_Mt (⟨"SmallerInTheShopModel", "shutsByLot", "()I"⟩, prog_9_method_79_code, 5, (Option.some FieldType.int), 6, mc_co mp_217) := mk_Mt_ok (j := 1240) (by decide +kernel) (by decide +kernel) (by decide +kernel) (by decide +kernel)
set_option maxRecDepth 100000 in
theorem mq_218 : mk_Mt (⟨"SmallerInTheShopModel", "draw", "(I)I"⟩, prog_9_method_78_code, 2, (Option.some FieldType.int), 6, mc_co mp_218) := mk_Mt_ok (j := 1244) (by decide +kernel) (by decide +kernel) (by decide +kernel) (by decide +kernel)
set_option maxRecDepth 100000 in
theorem mq_219 : mk_Mt (⟨"SmallerInTheShopModel", "image", "()I"⟩, prog_9_method_81_code, 1, (Option.some FieldType.int), 6, mc_co mp_219) := mk_Mt_ok (j := 1251) (by decide +kernel) (by decide +kernel) (by decide +kernel) (by decide +kernel)
set_option maxRecDepth 100000 in
theorem mq_220 : mk_Mt (⟨"SmallerInTheShopModel", "on", "()I"⟩, prog_9_method_82_code, 1, (Option.some FieldType.int), 6, mc_co mp_220) := mk_Mt_ok (j := 1255) (by decide +kernel) (by decide +kernel) (by decide +kernel) (by decide +kernel)
set_option maxRecDepth 100000 in
theorem mq_221 : mk_Mt (⟨"SmallerInTheShopModel", "count", "(I)I"⟩, prog_9_method_83_code, 2, (Option.some FieldType.int), 6, mc_co mp_221) := mk_Mt_ok (j := 1259) (by decide +kernel) (by decide +kernel) (by decide +kernel) (by decide +kernel)
theorem mr_5 : ∀ q ∈ mc_P5, mk_Mt q := List.forall_mem_cons.mpr ⟨mq_200, List.forall_mem_cons.mpr ⟨mq_201, List.forall_mem_cons.mpr ⟨mq_202, List.forall_mem_cons.mpr ⟨mq_203, List.forall_mem_cons.mpr ⟨mq_204, List.forall_mem_cons.mpr ⟨mq_205, List.forall_mem_cons.mpr ⟨mq_206, List.forall_mem_cons.mpr ⟨mq_207, List.forall_mem_cons.mpr ⟨mq_208, List.forall_mem_cons.mpr ⟨mq_209, List.forall_mem_cons.mpr ⟨mq_210, List.forall_mem_cons.mpr ⟨mq_211, List.forall_mem_cons.mpr ⟨mq_212, List.forall_mem_cons.mpr ⟨mq_213, List.forall_mem_cons.mpr ⟨mq_214, List.forall_mem_cons.mpr ⟨mq_215, List.forall_mem_cons.mpr ⟨mq_216, List.forall_mem_cons.mpr ⟨mq_217, List.forall_mem_cons.mpr ⟨mq_218, List.forall_mem_cons.mpr ⟨mq_219, List.forall_mem_cons.mpr ⟨mq_220, List.forall_mem_cons.mpr ⟨mq_221, fun _ h => absurd h List.not_mem_nil⟩⟩⟩⟩⟩⟩⟩⟩⟩⟩⟩⟩⟩⟩⟩⟩⟩⟩⟩⟩⟩⟩
theorem mc_all : ∀ q ∈ mc_PL, mk_Mt q := List.forall_mem_append.mpr ⟨mr_0, List.forall_mem_append.mpr ⟨mr_1, List.forall_mem_append.mpr ⟨mr_2, List.forall_mem_append.mpr ⟨mr_3, List.forall_mem_append.mpr ⟨mr_4, mr_5⟩⟩⟩⟩⟩
theorem mc_okP : mm_okP mc_cl mc_tb mc_sf mc_sts mc_sks mc_nws mc_lay mc_fty mc_nf 1 mc_P := by
  intro k y b mL rt ci co h
  exact mc_all _ (List.mem_of_getElem? h)
