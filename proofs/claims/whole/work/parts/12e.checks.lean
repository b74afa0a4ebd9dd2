set_option maxRecDepth 100000 in
theorem mq_160 : mk_Mt (⟨"SmallerInTheShopModel", "keepsAhead", "([II)V"⟩, prog_9_method_23_code, 4, (Option.none : Option FieldType), 6, mc_co mp_160) := mk_Mt_ok (j := 1017) (by decide +kernel) (by decide +kernel) (by decide +kernel) (by decide +kernel)
set_option maxRecDepth 100000 in
theorem mq_161 : mk_Mt (⟨"SmallerInTheShopModel", "wear", "(III)I"⟩, prog_9_method_7_code, 4, (Option.some FieldType.int), 6, mc_co mp_161) := mk_Mt_ok (j := 1020) (by decide +kernel) (by decide +kernel) (by decide +kernel) (by decide +kernel)
set_option maxRecDepth 100000 in
theorem mq_162 : mk_Mt (⟨"SmallerInTheShopModel", "lays", "([III)V"⟩, prog_9_method_24_code, 14, (Option.none : Option FieldType), 6, mc_co mp_162) := mk_Mt_ok (j := 1024) (by decide +kernel) (by decide +kernel) (by decide +kernel) (by decide +kernel)
set_option maxRecDepth 100000 in
theorem mq_163 : mk_Mt (⟨"SmallerInTheShopModel", "isOneCell", "([III)Z"⟩, prog_9_method_13_code, 3, (Option.some FieldType.boolean), 6, mc_co mp_163) := mk_Mt_ok (j := 1027) (by decide +kernel) (by decide +kernel) (by decide +kernel) (by decide +kernel)
set_option maxRecDepth 100000 in
theorem mq_164 : mk_Mt (⟨"SmallerInTheShopModel", "opened", "([I)V"⟩, prog_9_method_26_code, 3, (Option.none : Option FieldType), 6, mc_co mp_164) := mk_Mt_ok (j := 1030) (by decide +kernel) (by decide +kernel) (by decide +kernel) (by decide +kernel)
set_option maxRecDepth 100000 in
theorem mq_165 : mk_Mt (⟨"SmallerInTheShopModel", "crease", "(II)I"⟩, prog_9_method_36_code, 3, (Option.some FieldType.int), 6, mc_co mp_165) := mk_Mt_ok (j := 1034) (by decide +kernel) (by decide +kernel) (by decide +kernel) (by decide +kernel)
set_option maxRecDepth 100000 in
theorem mq_166 : mk_Mt (⟨"SmallerInTheShopModel", "isCrease", "(I)Z"⟩, prog_9_method_34_code, 1, (Option.some FieldType.boolean), 6, mc_co mp_166) := mk_Mt_ok (j := 1037) (by decide +kernel) (by decide +kernel) (by decide +kernel) (by decide +kernel)
set_option maxRecDepth 100000 in
theorem mq_167 : mk_Mt (⟨"SmallerInTheShopModel", "panel", "(II)I"⟩, prog_9_method_37_code, 3, (Option.some FieldType.int), 6, mc_co mp_167) := mk_Mt_ok (j := 1043) (by decide +kernel) (by decide +kernel) (by decide +kernel) (by decide +kernel)
set_option maxRecDepth 100000 in
theorem mq_168 : mk_Mt (⟨"SmallerInTheShopModel", "isPanel", "(I)Z"⟩, prog_9_method_35_code, 1, (Option.some FieldType.boolean), 6, mc_co mp_168) := mk_Mt_ok (j := 1046) (by decide +kernel) (by decide +kernel) (by decide +kernel) (by decide +kernel)
set_option maxRecDepth 100000 in
theorem mq_169 : mk_Mt (⟨"SmallerInTheShopModel", "isRead", "([II)Z"⟩, prog_9_method_16_code, 2, (Option.some FieldType.boolean), 6, mc_co mp_169) := mk_Mt_ok (j := 1050) (by decide +kernel) (by decide +kernel) (by decide +kernel) (by decide +kernel)
set_option maxRecDepth 100000 in
theorem mq_170 : mk_Mt (⟨"SmallerInTheShopModel", "shows", "([III)Z"⟩, prog_9_method_15_code, 4, (Option.some FieldType.boolean), 6, mc_co mp_170) := mk_Mt_ok (j := 1053) (by decide +kernel) (by decide +kernel) (by decide +kernel) (by decide +kernel)
set_option maxRecDepth 100000 in
theorem mq_171 : mk_Mt (⟨"SmallerInTheShopModel", "above", "([II)I"⟩, prog_9_method_14_code, 4, (Option.some FieldType.int), 6, mc_co mp_171) := mk_Mt_ok (j := 1056) (by decide +kernel) (by decide +kernel) (by decide +kernel) (by decide +kernel)
set_option maxRecDepth 100000 in
theorem mq_172 : mk_Mt (⟨"SmallerInTheShopModel", "fold", "(II)I"⟩, prog_9_method_38_code, 3, (Option.some FieldType.int), 6, mc_co mp_172) := mk_Mt_ok (j := 1060) (by decide +kernel) (by decide +kernel) (by decide +kernel) (by decide +kernel)
set_option maxRecDepth 100000 in
theorem mq_173 : mk_Mt (⟨"SmallerInTheShopModel", "opens", "()I"⟩, prog_9_method_39_code, 1, (Option.some FieldType.int), 6, mc_co mp_173) := mk_Mt_ok (j := 1064) (by decide +kernel) (by decide +kernel) (by decide +kernel) (by decide +kernel)
set_option maxRecDepth 100000 in
theorem mq_174 : mk_Mt (⟨"SmallerInTheShopModel", "wears", "(II)I"⟩, prog_9_method_40_code, 4, (Option.some FieldType.int), 6, mc_co mp_174) := mk_Mt_ok (j := 1068) (by decide +kernel) (by decide +kernel) (by decide +kernel) (by decide +kernel)
set_option maxRecDepth 100000 in
theorem mq_175 : mk_Mt (⟨"SmallerInTheShopModel", "turn", "(III)I"⟩, prog_9_method_41_code, 5, (Option.some FieldType.int), 6, mc_co mp_175) := mk_Mt_ok (j := 1073) (by decide +kernel) (by decide +kernel) (by decide +kernel) (by decide +kernel)
set_option maxRecDepth 100000 in
theorem mq_176 : mk_Mt (⟨"SmallerInTheShopModel", "cover", "(I)I"⟩, prog_9_method_42_code, 3, (Option.some FieldType.int), 6, mc_co mp_176) := mk_Mt_ok (j := 1077) (by decide +kernel) (by decide +kernel) (by decide +kernel) (by decide +kernel)
set_option maxRecDepth 100000 in
theorem mq_177 : mk_Mt (⟨"SmallerInTheShopModel", "hurts", "(III)I"⟩, prog_9_method_44_code, 5, (Option.some FieldType.int), 6, mc_co mp_177) := mk_Mt_ok (j := 1081) (by decide +kernel) (by decide +kernel) (by decide +kernel) (by decide +kernel)
set_option maxRecDepth 100000 in
theorem mq_178 : mk_Mt (⟨"SmallerInTheShopModel", "wornAll", "([I)I"⟩, prog_9_method_43_code, 3, (Option.some FieldType.int), 6, mc_co mp_178) := mk_Mt_ok (j := 1085) (by decide +kernel) (by decide +kernel) (by decide +kernel) (by decide +kernel)
set_option maxRecDepth 100000 in
theorem mq_179 : mk_Mt (⟨"SmallerInTheShopModel", "over", "(II)I"⟩, prog_9_method_45_code, 3, (Option.some FieldType.int), 6, mc_co mp_179) := mk_Mt_ok (j := 1089) (by decide +kernel) (by decide +kernel) (by decide +kernel) (by decide +kernel)
set_option maxRecDepth 100000 in
theorem mq_180 : mk_Mt (⟨"SmallerInTheShopModel", "wad", "(I)I"⟩, prog_9_method_48_code, 2, (Option.some FieldType.int), 6, mc_co mp_180) := mk_Mt_ok (j := 1093) (by decide +kernel) (by decide +kernel) (by decide +kernel) (by decide +kernel)
set_option maxRecDepth 100000 in
theorem mq_181 : mk_Mt (⟨"SmallerInTheShopModel", "thickness", "([I)I"⟩, prog_9_method_19_code, 5, (Option.some FieldType.int), 6, mc_co mp_181) := mk_Mt_ok (j := 1096) (by decide +kernel) (by decide +kernel) (by decide +kernel) (by decide +kernel)
set_option maxRecDepth 100000 in
theorem mq_182 : mk_Mt (⟨"SmallerInTheShopModel", "readSet", "([I)I"⟩, prog_9_method_46_code, 3, (Option.some FieldType.int), 6, mc_co mp_182) := mk_Mt_ok (j := 1099) (by decide +kernel) (by decide +kernel) (by decide +kernel) (by decide +kernel)
set_option maxRecDepth 100000 in
theorem mq_183 : mk_Mt (⟨"SmallerInTheShopModel", "isOut", "([I)Z"⟩, prog_9_method_17_code, 1, (Option.some FieldType.boolean), 6, mc_co mp_183) := mk_Mt_ok (j := 1102) (by decide +kernel) (by decide +kernel) (by decide +kernel) (by decide +kernel)
set_option maxRecDepth 100000 in
theorem mq_184 : mk_Mt (⟨"SmallerInTheShopModel", "flat", "()I"⟩, prog_9_method_47_code, 3, (Option.some FieldType.int), 6, mc_co mp_184) := mk_Mt_ok (j := 1106) (by decide +kernel) (by decide +kernel) (by decide +kernel) (by decide +kernel)
set_option maxRecDepth 100000 in
theorem mq_185 : mk_Mt (⟨"SmallerInTheShopModel", "shut", "(I)I"⟩, prog_9_method_54_code, 2, (Option.some FieldType.int), 6, mc_co mp_185) := mk_Mt_ok (j := 1110) (by decide +kernel) (by decide +kernel) (by decide +kernel) (by decide +kernel)
set_option maxRecDepth 100000 in
theorem mq_186 : mk_Mt (⟨"SmallerInTheShopModel", "seek", "(III)V"⟩, prog_9_method_53_code, 4, (Option.none : Option FieldType), 6, mc_co mp_186) := mk_Mt_ok (j := 1114) (by decide +kernel) (by decide +kernel) (by decide +kernel) (by decide +kernel)
set_option maxRecDepth 100000 in
theorem mq_187 : mk_Mt (⟨"SmallerInTheShopModel", "seeks", "(III)V"⟩, prog_9_method_52_code, 7, (Option.none : Option FieldType), 6, mc_co mp_187) := mk_Mt_ok (j := 1118) (by decide +kernel) (by decide +kernel) (by decide +kernel) (by decide +kernel)
set_option maxRecDepth 100000 in
theorem mq_188 : mk_Mt (⟨"SmallerInTheShopModel", "meets", "([IIII)V"⟩, prog_9_method_51_code, 6, (Option.none : Option FieldType), 6, mc_co mp_188) := mk_Mt_ok (j := 1122) (by decide +kernel) (by decide +kernel) (by decide +kernel) (by decide +kernel)
set_option maxRecDepth 100000 in
theorem mq_189 : mk_Mt (⟨"SmallerInTheShopModel", "isShut", "([I)Z"⟩, prog_9_method_18_code, 1, (Option.some FieldType.boolean), 6, mc_co mp_189) := mk_Mt_ok (j := 1125) (by decide +kernel) (by decide +kernel) (by decide +kernel) (by decide +kernel)
set_option maxRecDepth 100000 in
theorem mq_190 : mk_Mt (⟨"SmallerInTheShopModel", "better", "(II)V"⟩, prog_9_method_49_code, 3, (Option.none : Option FieldType), 6, mc_co mp_190) := mk_Mt_ok (j := 1129) (by decide +kernel) (by decide +kernel) (by decide +kernel) (by decide +kernel)
set_option maxRecDepth 100000 in
theorem mq_191 : mk_Mt (⟨"SmallerInTheShopModel", "isAsTheRow", "([I)Z"⟩, prog_9_method_50_code, 5, (Option.some FieldType.boolean), 6, mc_co mp_191) := mk_Mt_ok (j := 1134) (by decide +kernel) (by decide +kernel) (by decide +kernel) (by decide +kernel)
set_option maxRecDepth 100000 in
theorem mq_192 : mk_Mt (⟨"SmallerInTheShopModel", "ways", "(I)I"⟩, prog_9_method_55_code, 2, (Option.some FieldType.int), 6, mc_co mp_192) := mk_Mt_ok (j := 1138) (by decide +kernel) (by decide +kernel) (by decide +kernel) (by decide +kernel)
set_option maxRecDepth 100000 in
theorem mq_193 : mk_Mt (⟨"SmallerInTheShopModel", "up", "(IIII)I"⟩, prog_9_method_56_code, 5, (Option.some FieldType.int), 6, mc_co mp_193) := mk_Mt_ok (j := 1143) (by decide +kernel) (by decide +kernel) (by decide +kernel) (by decide +kernel)
set_option maxRecDepth 100000 in
theorem mq_194 : mk_Mt (⟨"SmallerInTheShopModel", "most", "(III)I"⟩, prog_9_method_57_code, 4, (Option.some FieldType.int), 6, mc_co mp_194) := mk_Mt_ok (j := 1148) (by decide +kernel) (by decide +kernel) (by decide +kernel) (by decide +kernel)
set_option maxRecDepth 100000 in
theorem mq_195 : mk_Mt (⟨"SmallerInTheShopModel", "layers", "()I"⟩, prog_9_method_59_code, 1, (Option.some FieldType.int), 6, mc_co mp_195) := mk_Mt_ok (j := 1152) (by decide +kernel) (by decide +kernel) (by decide +kernel) (by decide +kernel)
set_option maxRecDepth 100000 in
theorem mq_196 : mk_Mt (⟨"SmallerInTheShopModel", "tellsAll", "()Z"⟩, prog_9_method_58_code, 3, (Option.some FieldType.boolean), 6, mc_co mp_196) := mk_Mt_ok (j := 1156) (by decide +kernel) (by decide +kernel) (by decide +kernel) (by decide +kernel)
set_option maxRecDepth 100000 in
theorem mq_197 : mk_Mt (⟨"SmallerInTheShopModel", "lasts", "(II)I"⟩, prog_9_method_63_code, 3, (Option.some FieldType.int), 6, mc_co mp_197) := mk_Mt_ok (j := 1160) (by decide +kernel) (by decide +kernel) (by decide +kernel) (by decide +kernel)
set_option maxRecDepth 100000 in
theorem mq_198 : mk_Mt (⟨"SmallerInTheShopModel", "times", "(II)I"⟩, prog_9_method_62_code, 6, (Option.some FieldType.int), 6, mc_co mp_198) := mk_Mt_ok (j := 1164) (by decide +kernel) (by decide +kernel) (by decide +kernel) (by decide +kernel)
set_option maxRecDepth 100000 in
theorem mq_199 : mk_Mt (⟨"SmallerInTheShopModel", "holes", "([I)I"⟩, prog_9_method_61_code, 3, (Option.some FieldType.int), 6, mc_co mp_199) := mk_Mt_ok (j := 1167) (by decide +kernel) (by decide +kernel) (by decide +kernel) (by decide +kernel)
theorem mr_4 : ∀ q ∈ mc_P4, mk_Mt q := List.forall_mem_cons.mpr ⟨mq_160, List.forall_mem_cons.mpr ⟨mq_161, List.forall_mem_cons.mpr ⟨mq_162, List.forall_mem_cons.mpr ⟨mq_163, List.forall_mem_cons.mpr ⟨mq_164, List.forall_mem_cons.mpr ⟨mq_165, List.forall_mem_cons.mpr ⟨mq_166, List.forall_mem_cons.mpr ⟨mq_167, List.forall_mem_cons.mpr ⟨mq_168, List.forall_mem_cons.mpr ⟨mq_169, List.forall_mem_cons.mpr ⟨mq_170, List.forall_mem_cons.mpr ⟨mq_171, List.forall_mem_cons.mpr ⟨mq_172, List.forall_mem_cons.mpr ⟨mq_173, List.forall_mem_cons.mpr ⟨mq_174, List.forall_mem_cons.mpr ⟨mq_175, List.forall_mem_cons.mpr ⟨mq_176, List.forall_mem_cons.mpr ⟨mq_177, List.forall_mem_cons.mpr ⟨mq_178, List.forall_mem_cons.mpr ⟨mq_179, List.forall_mem_cons.mpr ⟨mq_180, List.forall_mem_cons.mpr ⟨mq_181, List.forall_mem_cons.mpr ⟨mq_182, List.forall_mem_cons.mpr ⟨mq_183, List.forall_mem_cons.mpr ⟨mq_184, List.forall_mem_cons.mpr ⟨mq_185, List.forall_mem_cons.mpr ⟨mq_186, List.forall_mem_cons.mpr ⟨mq_187, List.forall_mem_cons.mpr ⟨mq_188, List.forall_mem_cons.mpr ⟨mq_189, List.forall_mem_cons.mpr ⟨mq_190, List.forall_mem_cons.mpr ⟨mq_191, List.forall_mem_cons.mpr ⟨mq_192, List.forall_mem_cons.mpr ⟨mq_193, List.forall_mem_cons.mpr ⟨mq_194, List.forall_mem_cons.mpr ⟨mq_195, List.forall_mem_cons.mpr ⟨mq_196, List.forall_mem_cons.mpr ⟨mq_197, List.forall_mem_cons.mpr ⟨mq_198, List.forall_mem_cons.mpr ⟨mq_199, fun _ h => absurd h List.not_mem_nil⟩⟩⟩⟩⟩⟩⟩⟩⟩⟩⟩⟩⟩⟩⟩⟩⟩⟩⟩⟩⟩⟩⟩⟩⟩⟩⟩⟩⟩⟩⟩⟩⟩⟩⟩⟩⟩⟩⟩⟩
