theorem q1_196 : Cond.methodLink "PolicyEngine$Audit" 3 objectInit ∈ TB := TB_of (List.mem_append_right _ (List.mem_append_left _ (List.mem_of_getElem? (i := 196) rfl))) (by decide +kernel)
theorem q1_33 : Cond.instanceMethod objectInit ∈ TB := TB_of (List.mem_append_right _ (List.mem_append_left _ (List.mem_of_getElem? (i := 33) rfl))) (by decide +kernel)
theorem q1_34 : Cond.code objectInit ⟨#[0xb1]⟩ 1 none ∈ TB := TB_of (List.mem_append_right _ (List.mem_append_left _ (List.mem_of_getElem? (i := 34) rfl))) (by decide +kernel)
theorem q1_57 : Cond.arrayClass .int ∈ TB := TB_of (List.mem_append_right _ (List.mem_append_left _ (List.mem_of_getElem? (i := 57) rfl))) (by decide +kernel)
theorem q1_63 : Cond.methodLink "PolicyEngine$Grants" 3 objectInit ∈ TB := TB_of (List.mem_append_right _ (List.mem_append_left _ (List.mem_of_getElem? (i := 63) rfl))) (by decide +kernel)
theorem q1_46 : Cond.methodLink "PolicyEngine$Rules" 3 objectInit ∈ TB := TB_of (List.mem_append_right _ (List.mem_append_left _ (List.mem_of_getElem? (i := 46) rfl))) (by decide +kernel)
theorem q1_40 : Cond.methodLink "PolicyEngine$State" 3 objectInit ∈ TB := TB_of (List.mem_append_right _ (List.mem_append_left _ (List.mem_of_getElem? (i := 40) rfl))) (by decide +kernel)
theorem q1_41 : Cond.classLink "PolicyEngine$State" 9 "PolicyEngine$Rules" ∈ TB := TB_of (List.mem_append_right _ (List.mem_append_left _ (List.mem_of_getElem? (i := 41) rfl))) (by decide +kernel)
theorem q1_42 : Cond.instantiable "PolicyEngine$Rules" 2 ∈ TB := TB_of (List.mem_append_right _ (List.mem_append_left _ (List.mem_of_getElem? (i := 42) rfl))) (by decide +kernel)
theorem q1_45 : Cond.code yX6_init cX6_init 1 none ∈ TB := TB_of (List.mem_append_right _ (List.mem_append_left _ (List.mem_of_getElem? (i := 45) rfl))) (by decide +kernel)
theorem q1_44 : Cond.instanceMethod yX6_init ∈ TB := TB_of (List.mem_append_right _ (List.mem_append_left _ (List.mem_of_getElem? (i := 44) rfl))) (by decide +kernel)
theorem q1_58 : Cond.classLink "PolicyEngine$State" 18 "PolicyEngine$Grants" ∈ TB := TB_of (List.mem_append_right _ (List.mem_append_left _ (List.mem_of_getElem? (i := 58) rfl))) (by decide +kernel)
theorem q1_59 : Cond.instantiable "PolicyEngine$Grants" 2 ∈ TB := TB_of (List.mem_append_right _ (List.mem_append_left _ (List.mem_of_getElem? (i := 59) rfl))) (by decide +kernel)
theorem q1_62 : Cond.code yX2_init cX2_init 1 none ∈ TB := TB_of (List.mem_append_right _ (List.mem_append_left _ (List.mem_of_getElem? (i := 62) rfl))) (by decide +kernel)
theorem q1_61 : Cond.instanceMethod yX2_init ∈ TB := TB_of (List.mem_append_right _ (List.mem_append_left _ (List.mem_of_getElem? (i := 61) rfl))) (by decide +kernel)
theorem q1_98 : Cond.methodLink "PolicyEngine$History" 3 objectInit ∈ TB := TB_of (List.mem_append_right _ (List.mem_append_left _ (List.mem_of_getElem? (i := 98) rfl))) (by decide +kernel)
theorem q1_99 : Cond.classLink "PolicyEngine$History" 9 "PolicyEngine$State" ∈ TB := TB_of (List.mem_append_right _ (List.mem_append_left _ (List.mem_of_getElem? (i := 99) rfl))) (by decide +kernel)
theorem q1_36 : Cond.instantiable "PolicyEngine$State" 4 ∈ TB := TB_of (List.mem_append_right _ (List.mem_append_left _ (List.mem_of_getElem? (i := 36) rfl))) (by decide +kernel)
theorem q1_39 : Cond.code yX8_init cX8_init 1 none ∈ TB := TB_of (List.mem_append_right _ (List.mem_append_left _ (List.mem_of_getElem? (i := 39) rfl))) (by decide +kernel)
theorem q1_38 : Cond.instanceMethod yX8_init ∈ TB := TB_of (List.mem_append_right _ (List.mem_append_left _ (List.mem_of_getElem? (i := 38) rfl))) (by decide +kernel)
theorem q1_115 : Cond.methodLink "PolicyEngine$RuleTable" 3 objectInit ∈ TB := TB_of (List.mem_append_right _ (List.mem_append_left _ (List.mem_of_getElem? (i := 115) rfl))) (by decide +kernel)
theorem q1_144 : Cond.methodLink "PolicyEngine$Search" 3 objectInit ∈ TB := TB_of (List.mem_append_right _ (List.mem_append_left _ (List.mem_of_getElem? (i := 144) rfl))) (by decide +kernel)
theorem q1_157 : Cond.methodLink "PolicyEngine$Tally" 3 objectInit ∈ TB := TB_of (List.mem_append_right _ (List.mem_append_left _ (List.mem_of_getElem? (i := 157) rfl))) (by decide +kernel)
theorem q1_183 : Cond.methodLink "PolicyEngine$Chains" 3 objectInit ∈ TB := TB_of (List.mem_append_right _ (List.mem_append_left _ (List.mem_of_getElem? (i := 183) rfl))) (by decide +kernel)
theorem q1_210 : Cond.methodLink "PolicyEngine$Reader" 3 objectInit ∈ TB := TB_of (List.mem_append_right _ (List.mem_append_left _ (List.mem_of_getElem? (i := 210) rfl))) (by decide +kernel)
theorem q1_232 : Cond.arrayClass .char ∈ TB := TB_of (List.mem_append_right _ (List.mem_append_left _ (List.mem_of_getElem? (i := 232) rfl))) (by decide +kernel)
theorem q1_211 : Cond.classLink "PolicyEngine$Reader" 15 "PolicyEngine$Rules" ∈ TB := TB_of (List.mem_append_right _ (List.mem_append_left _ (List.mem_of_getElem? (i := 211) rfl))) (by decide +kernel)
theorem q1_238 : Cond.methodLink "PolicyEngine$Writer" 3 objectInit ∈ TB := TB_of (List.mem_append_right _ (List.mem_append_left _ (List.mem_of_getElem? (i := 238) rfl))) (by decide +kernel)
theorem q1_32 : Cond.methodLink "PolicyEngine" 3 objectInit ∈ TB := TB_of (List.mem_append_right _ (List.mem_append_left _ (List.mem_of_getElem? (i := 32) rfl))) (by decide +kernel)
theorem q1_35 : Cond.classLink "PolicyEngine" 9 "PolicyEngine$State" ∈ TB := TB_of (List.mem_append_right _ (List.mem_append_left _ (List.mem_of_getElem? (i := 35) rfl))) (by decide +kernel)
theorem q1_93 : Cond.classLink "PolicyEngine" 19 "PolicyEngine$History" ∈ TB := TB_of (List.mem_append_right _ (List.mem_append_left _ (List.mem_of_getElem? (i := 93) rfl))) (by decide +kernel)
theorem q1_94 : Cond.instantiable "PolicyEngine$History" 2 ∈ TB := TB_of (List.mem_append_right _ (List.mem_append_left _ (List.mem_of_getElem? (i := 94) rfl))) (by decide +kernel)
theorem q1_95 : Cond.methodLink "PolicyEngine" 21 yX3_init ∈ TB := TB_of (List.mem_append_right _ (List.mem_append_left _ (List.mem_of_getElem? (i := 95) rfl))) (by decide +kernel)
theorem q1_97 : Cond.code yX3_init cX3_init 2 none ∈ TB := TB_of (List.mem_append_right _ (List.mem_append_left _ (List.mem_of_getElem? (i := 97) rfl))) (by decide +kernel)
theorem q1_96 : Cond.instanceMethod yX3_init ∈ TB := TB_of (List.mem_append_right _ (List.mem_append_left _ (List.mem_of_getElem? (i := 96) rfl))) (by decide +kernel)
theorem q1_110 : Cond.classLink "PolicyEngine" 26 "PolicyEngine$RuleTable" ∈ TB := TB_of (List.mem_append_right _ (List.mem_append_left _ (List.mem_of_getElem? (i := 110) rfl))) (by decide +kernel)
theorem q1_111 : Cond.instantiable "PolicyEngine$RuleTable" 7 ∈ TB := TB_of (List.mem_append_right _ (List.mem_append_left _ (List.mem_of_getElem? (i := 111) rfl))) (by decide +kernel)
theorem q1_112 : Cond.methodLink "PolicyEngine" 28 yX5_init ∈ TB := TB_of (List.mem_append_right _ (List.mem_append_left _ (List.mem_of_getElem? (i := 112) rfl))) (by decide +kernel)
theorem q1_114 : Cond.code yX5_init cX5_init 2 none ∈ TB := TB_of (List.mem_append_right _ (List.mem_append_left _ (List.mem_of_getElem? (i := 114) rfl))) (by decide +kernel)
theorem q1_113 : Cond.instanceMethod yX5_init ∈ TB := TB_of (List.mem_append_right _ (List.mem_append_left _ (List.mem_of_getElem? (i := 113) rfl))) (by decide +kernel)
theorem q1_139 : Cond.classLink "PolicyEngine" 35 "PolicyEngine$Search" ∈ TB := TB_of (List.mem_append_right _ (List.mem_append_left _ (List.mem_of_getElem? (i := 139) rfl))) (by decide +kernel)
theorem q1_140 : Cond.instantiable "PolicyEngine$Search" 2 ∈ TB := TB_of (List.mem_append_right _ (List.mem_append_left _ (List.mem_of_getElem? (i := 140) rfl))) (by decide +kernel)
theorem q1_141 : Cond.methodLink "PolicyEngine" 37 yX7_init ∈ TB := TB_of (List.mem_append_right _ (List.mem_append_left _ (List.mem_of_getElem? (i := 141) rfl))) (by decide +kernel)
theorem q1_143 : Cond.code yX7_init cX7_init 2 none ∈ TB := TB_of (List.mem_append_right _ (List.mem_append_left _ (List.mem_of_getElem? (i := 143) rfl))) (by decide +kernel)
theorem q1_142 : Cond.instanceMethod yX7_init ∈ TB := TB_of (List.mem_append_right _ (List.mem_append_left _ (List.mem_of_getElem? (i := 142) rfl))) (by decide +kernel)
theorem q1_152 : Cond.classLink "PolicyEngine" 44 "PolicyEngine$Tally" ∈ TB := TB_of (List.mem_append_right _ (List.mem_append_left _ (List.mem_of_getElem? (i := 152) rfl))) (by decide +kernel)
theorem q1_153 : Cond.instantiable "PolicyEngine$Tally" 6 ∈ TB := TB_of (List.mem_append_right _ (List.mem_append_left _ (List.mem_of_getElem? (i := 153) rfl))) (by decide +kernel)
theorem q1_154 : Cond.methodLink "PolicyEngine" 46 yX9_init ∈ TB := TB_of (List.mem_append_right _ (List.mem_append_left _ (List.mem_of_getElem? (i := 154) rfl))) (by decide +kernel)
theorem q1_156 : Cond.code yX9_init cX9_init 2 none ∈ TB := TB_of (List.mem_append_right _ (List.mem_append_left _ (List.mem_of_getElem? (i := 156) rfl))) (by decide +kernel)
theorem q1_155 : Cond.instanceMethod yX9_init ∈ TB := TB_of (List.mem_append_right _ (List.mem_append_left _ (List.mem_of_getElem? (i := 155) rfl))) (by decide +kernel)
theorem q1_178 : Cond.classLink "PolicyEngine" 51 "PolicyEngine$Chains" ∈ TB := TB_of (List.mem_append_right _ (List.mem_append_left _ (List.mem_of_getElem? (i := 178) rfl))) (by decide +kernel)
theorem q1_179 : Cond.instantiable "PolicyEngine$Chains" 2 ∈ TB := TB_of (List.mem_append_right _ (List.mem_append_left _ (List.mem_of_getElem? (i := 179) rfl))) (by decide +kernel)
theorem q1_180 : Cond.methodLink "PolicyEngine" 57 yX1_init ∈ TB := TB_of (List.mem_append_right _ (List.mem_append_left _ (List.mem_of_getElem? (i := 180) rfl))) (by decide +kernel)
theorem q1_182 : Cond.code yX1_init cX1_init 2 none ∈ TB := TB_of (List.mem_append_right _ (List.mem_append_left _ (List.mem_of_getElem? (i := 182) rfl))) (by decide +kernel)
theorem q1_181 : Cond.instanceMethod yX1_init ∈ TB := TB_of (List.mem_append_right _ (List.mem_append_left _ (List.mem_of_getElem? (i := 181) rfl))) (by decide +kernel)
theorem q1_191 : Cond.classLink "PolicyEngine" 64 "PolicyEngine$Audit" ∈ TB := TB_of (List.mem_append_right _ (List.mem_append_left _ (List.mem_of_getElem? (i := 191) rfl))) (by decide +kernel)
theorem q1_192 : Cond.instantiable "PolicyEngine$Audit" 2 ∈ TB := TB_of (List.mem_append_right _ (List.mem_append_left _ (List.mem_of_getElem? (i := 192) rfl))) (by decide +kernel)
theorem q1_195 : Cond.code yX0_init cX0_init 1 none ∈ TB := TB_of (List.mem_append_right _ (List.mem_append_left _ (List.mem_of_getElem? (i := 195) rfl))) (by decide +kernel)
theorem q1_194 : Cond.instanceMethod yX0_init ∈ TB := TB_of (List.mem_append_right _ (List.mem_append_left _ (List.mem_of_getElem? (i := 194) rfl))) (by decide +kernel)
theorem q1_205 : Cond.classLink "PolicyEngine" 71 "PolicyEngine$Reader" ∈ TB := TB_of (List.mem_append_right _ (List.mem_append_left _ (List.mem_of_getElem? (i := 205) rfl))) (by decide +kernel)
theorem q1_206 : Cond.instantiable "PolicyEngine$Reader" 5 ∈ TB := TB_of (List.mem_append_right _ (List.mem_append_left _ (List.mem_of_getElem? (i := 206) rfl))) (by decide +kernel)
theorem q1_209 : Cond.code yX4_init cX4_init 1 none ∈ TB := TB_of (List.mem_append_right _ (List.mem_append_left _ (List.mem_of_getElem? (i := 209) rfl))) (by decide +kernel)
theorem q1_208 : Cond.instanceMethod yX4_init ∈ TB := TB_of (List.mem_append_right _ (List.mem_append_left _ (List.mem_of_getElem? (i := 208) rfl))) (by decide +kernel)
theorem q1_233 : Cond.classLink "PolicyEngine" 78 "PolicyEngine$Writer" ∈ TB := TB_of (List.mem_append_right _ (List.mem_append_left _ (List.mem_of_getElem? (i := 233) rfl))) (by decide +kernel)
theorem q1_234 : Cond.instantiable "PolicyEngine$Writer" 2 ∈ TB := TB_of (List.mem_append_right _ (List.mem_append_left _ (List.mem_of_getElem? (i := 234) rfl))) (by decide +kernel)
theorem q1_237 : Cond.code yX10_init cX10_init 1 none ∈ TB := TB_of (List.mem_append_right _ (List.mem_append_left _ (List.mem_of_getElem? (i := 237) rfl))) (by decide +kernel)
theorem q1_236 : Cond.instanceMethod yX10_init ∈ TB := TB_of (List.mem_append_right _ (List.mem_append_left _ (List.mem_of_getElem? (i := 236) rfl))) (by decide +kernel)
theorem q5_223 : Cond.methodLink "PolicyEngineModel" 1 objectInit ∈ TB := TB_of (List.mem_append_right _ (List.mem_append_right _ (List.mem_append_right _ (List.mem_append_right _ (List.mem_append_right _ (List.mem_append_left _ (List.mem_of_getElem? (i := 223) rfl))))))) (by decide +kernel)
theorem hfs6 : ∀ j, j < 2 → defaultValue (tyX6 j) = vp_V [.null, .int 0] j := by decide +kernel
theorem yc_X6_init : g_Yc yX6_init cX6_init 1 0 := ⟨q1_45, q1_44, q1_3, rfl, by decide +kernel, by decide +kernel, by decide +kernel⟩
theorem hfs2 : ∀ j, j < 2 → defaultValue (tyX2 j) = vp_V [.null, .int 0] j := by decide +kernel
theorem yc_X2_init : g_Yc yX2_init cX2_init 1 0 := ⟨q1_62, q1_61, q1_4, rfl, by decide +kernel, by decide +kernel, by decide +kernel⟩
theorem hfs8 : ∀ j, j < 4 → defaultValue (tyX8 j) = vp_V [.null, .null, .null, .int 0] j := by decide +kernel
theorem yc_X8_init : g_Yc yX8_init cX8_init 1 0 := ⟨q1_39, q1_38, q1_2, rfl, by decide +kernel, by decide +kernel, by decide +kernel⟩
theorem hfs3 : ∀ j, j < 2 → defaultValue (tyX3 j) = vp_V [.null, .int 0] j := by decide +kernel
theorem yc_X3_init : g_Yc yX3_init cX3_init 2 0 := ⟨q1_97, q1_96, q1_5, rfl, by decide +kernel, by decide +kernel, by decide +kernel⟩
theorem hfs5 : ∀ j, j < 7 → defaultValue (tyX5 j) = vp_V [.null, .null, .null, .null, .null, .int 0, .int 0] j := by decide +kernel
theorem yc_X5_init : g_Yc yX5_init cX5_init 2 1 := ⟨q1_114, q1_113, q1_6, rfl, by decide +kernel, by decide +kernel, by decide +kernel⟩
theorem hfs7 : ∀ j, j < 2 → defaultValue (tyX7 j) = vp_V [.null, .null] j := by decide +kernel
theorem yc_X7_init : g_Yc yX7_init cX7_init 2 1 := ⟨q1_143, q1_142, q1_7, rfl, by decide +kernel, by decide +kernel, by decide +kernel⟩
theorem hfs9 : ∀ j, j < 6 → defaultValue (tyX9 j) = vp_V [.null, .null, .int 0, .null, .null, .null] j := by decide +kernel
theorem yc_X9_init : g_Yc yX9_init cX9_init 2 1 := ⟨q1_156, q1_155, q1_8, rfl, by decide +kernel, by decide +kernel, by decide +kernel⟩
theorem hfs1 : ∀ j, j < 2 → defaultValue (tyX1 j) = vp_V [.null, .null] j := by decide +kernel
theorem yc_X1_init : g_Yc yX1_init cX1_init 2 1 := ⟨q1_182, q1_181, q1_9, rfl, by decide +kernel, by decide +kernel, by decide +kernel⟩
theorem hfs0 : ∀ j, j < 2 → defaultValue (tyX0 j) = vp_V [.null, .int 0] j := by decide +kernel
theorem yc_X0_init : g_Yc yX0_init cX0_init 1 0 := ⟨q1_195, q1_194, q1_10, rfl, by decide +kernel, by decide +kernel, by decide +kernel⟩
theorem hfs4 : ∀ j, j < 5 → defaultValue (tyX4 j) = vp_V [.null, .int 0, .int 0, .null, .int 0] j := by decide +kernel
theorem yc_X4_init : g_Yc yX4_init cX4_init 1 0 := ⟨q1_209, q1_208, q1_11, rfl, by decide +kernel, by decide +kernel, by decide +kernel⟩
theorem hfs10 : ∀ j, j < 2 → defaultValue (tyX10 j) = vp_V [.null, .int 0] j := by decide +kernel
theorem yc_X10_init : g_Yc yX10_init cX10_init 1 0 := ⟨q1_237, q1_236, q1_12, rfl, by decide +kernel, by decide +kernel, by decide +kernel⟩
