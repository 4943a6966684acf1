-- ===== the tables' words among WA =====
theorem m_0 : (.initialized "SettleLayersLaw" : Cond) ∈ WA := List.mem_filter.mpr ⟨List.mem_of_getElem? (i := 13) (by decide +kernel), by decide +kernel⟩
theorem m_1 : (.initialized R_X : Cond) ∈ WA := List.mem_filter.mpr ⟨List.mem_of_getElem? (i := 14) (by decide +kernel), by decide +kernel⟩
theorem m_2 : (.initialized R_S : Cond) ∈ WA := List.mem_filter.mpr ⟨List.mem_of_getElem? (i := 15) (by decide +kernel), by decide +kernel⟩
theorem m_3 : (.initialized R_O : Cond) ∈ WA := List.mem_filter.mpr ⟨List.mem_of_getElem? (i := 16) (by decide +kernel), by decide +kernel⟩
theorem m_4 : (.initialized R_D : Cond) ∈ WA := List.mem_filter.mpr ⟨List.mem_of_getElem? (i := 17) (by decide +kernel), by decide +kernel⟩
theorem m_5 : (.initialized R_G : Cond) ∈ WA := List.mem_filter.mpr ⟨List.mem_of_getElem? (i := 18) (by decide +kernel), by decide +kernel⟩
theorem m_6 : (.initialized R_M : Cond) ∈ WA := List.mem_filter.mpr ⟨List.mem_of_getElem? (i := 19) (by decide +kernel), by decide +kernel⟩
theorem m_7 : (.initialized "java/lang/Math" : Cond) ∈ WA := List.mem_filter.mpr ⟨List.mem_of_getElem? (i := 20) (by decide +kernel), by decide +kernel⟩
theorem m_8 : (.classLink "SettleLayersLaw" 7 R_X : Cond) ∈ WA := List.mem_filter.mpr ⟨List.mem_of_getElem? (i := 21) (by decide +kernel), by decide +kernel⟩
theorem m_9 : (.instantiable R_X 6 : Cond) ∈ WA := List.mem_filter.mpr ⟨List.mem_of_getElem? (i := 22) (by decide +kernel), by decide +kernel⟩
theorem m_10 : (.methodLink "SettleLayersLaw" 9 yX_init : Cond) ∈ WA := List.mem_filter.mpr ⟨List.mem_of_getElem? (i := 23) (by decide +kernel), by decide +kernel⟩
theorem m_11 : (.instanceMethod yX_init : Cond) ∈ WA := List.mem_filter.mpr ⟨List.mem_of_getElem? (i := 24) (by decide +kernel), by decide +kernel⟩
theorem m_12 : (.code yX_init prog_1_method_1_code 1 none : Cond) ∈ WA := List.mem_filter.mpr ⟨List.mem_of_getElem? (i := 25) (by decide +kernel), by decide +kernel⟩
theorem m_13 : (.methodLink R_X 1 objectInit : Cond) ∈ WA := List.mem_filter.mpr ⟨List.mem_of_getElem? (i := 26) (by decide +kernel), by decide +kernel⟩
theorem m_14 : (.instanceMethod objectInit : Cond) ∈ WA := List.mem_filter.mpr ⟨List.mem_of_getElem? (i := 27) (by decide +kernel), by decide +kernel⟩
theorem m_15 : (.code objectInit ⟨#[0xb1]⟩ 1 none : Cond) ∈ WA := List.mem_filter.mpr ⟨List.mem_of_getElem? (i := 28) (by decide +kernel), by decide +kernel⟩
theorem m_16 : (.classLink R_X 7 R_S : Cond) ∈ WA := List.mem_filter.mpr ⟨List.mem_of_getElem? (i := 29) (by decide +kernel), by decide +kernel⟩
theorem m_17 : (.instantiable R_S 11 : Cond) ∈ WA := List.mem_filter.mpr ⟨List.mem_of_getElem? (i := 30) (by decide +kernel), by decide +kernel⟩
theorem m_19 : (.instanceMethod yS_init : Cond) ∈ WA := List.mem_filter.mpr ⟨List.mem_of_getElem? (i := 32) (by decide +kernel), by decide +kernel⟩
theorem m_20 : (.code yS_init prog_5_method_1_code 1 none : Cond) ∈ WA := List.mem_filter.mpr ⟨List.mem_of_getElem? (i := 33) (by decide +kernel), by decide +kernel⟩
theorem m_21 : (.methodLink R_S 3 objectInit : Cond) ∈ WA := List.mem_filter.mpr ⟨List.mem_of_getElem? (i := 34) (by decide +kernel), by decide +kernel⟩
theorem m_22 : (.fieldLink R_S 9 "SettleLayers$Soil" "leak" "[I" : Cond) ∈ WA := List.mem_filter.mpr ⟨List.mem_of_getElem? (i := 35) (by decide +kernel), by decide +kernel⟩
theorem m_23 : (.fieldLink R_G 75 "SettleLayers$Soil" "leak" "[I" : Cond) ∈ WA := List.mem_filter.mpr ⟨List.mem_of_getElem? (i := 36) (by decide +kernel), by decide +kernel⟩
theorem m_24 : (.fieldLink R_S 15 "SettleLayers$Soil" "leakToNext" "[I" : Cond) ∈ WA := List.mem_filter.mpr ⟨List.mem_of_getElem? (i := 37) (by decide +kernel), by decide +kernel⟩
theorem m_25 : (.fieldLink R_G 79 "SettleLayers$Soil" "leakToNext" "[I" : Cond) ∈ WA := List.mem_filter.mpr ⟨List.mem_of_getElem? (i := 38) (by decide +kernel), by decide +kernel⟩
theorem m_26 : (.fieldLink R_S 18 "SettleLayers$Soil" "hard" "[I" : Cond) ∈ WA := List.mem_filter.mpr ⟨List.mem_of_getElem? (i := 39) (by decide +kernel), by decide +kernel⟩
theorem m_27 : (.fieldLink R_S 21 "SettleLayers$Soil" "soft" "[I" : Cond) ∈ WA := List.mem_filter.mpr ⟨List.mem_of_getElem? (i := 40) (by decide +kernel), by decide +kernel⟩
theorem m_28 : (.fieldLink R_S 24 "SettleLayers$Soil" "firstPast" "[I" : Cond) ∈ WA := List.mem_filter.mpr ⟨List.mem_of_getElem? (i := 41) (by decide +kernel), by decide +kernel⟩
theorem m_29 : (.fieldLink R_S 27 "SettleLayers$Soil" "firstCell" "[I" : Cond) ∈ WA := List.mem_filter.mpr ⟨List.mem_of_getElem? (i := 42) (by decide +kernel), by decide +kernel⟩
theorem m_30 : (.fieldLink R_X 98 "SettleLayers$Soil" "firstCell" "[I" : Cond) ∈ WA := List.mem_filter.mpr ⟨List.mem_of_getElem? (i := 43) (by decide +kernel), by decide +kernel⟩
theorem m_31 : (.fieldLink R_S 44 "SettleLayers$Soil" "layers" "I" : Cond) ∈ WA := List.mem_filter.mpr ⟨List.mem_of_getElem? (i := 44) (by decide +kernel), by decide +kernel⟩
theorem m_32 : (.fieldLink R_X 93 "SettleLayers$Soil" "layers" "I" : Cond) ∈ WA := List.mem_filter.mpr ⟨List.mem_of_getElem? (i := 45) (by decide +kernel), by decide +kernel⟩
theorem m_33 : (.fieldLink R_S 34 "SettleLayers$Soil" "cells" "I" : Cond) ∈ WA := List.mem_filter.mpr ⟨List.mem_of_getElem? (i := 46) (by decide +kernel), by decide +kernel⟩
theorem m_34 : (.fieldLink R_X 57 "SettleLayers$Soil" "cells" "I" : Cond) ∈ WA := List.mem_filter.mpr ⟨List.mem_of_getElem? (i := 47) (by decide +kernel), by decide +kernel⟩
theorem m_35 : (.fieldLink R_G 37 "SettleLayers$Soil" "cells" "I" : Cond) ∈ WA := List.mem_filter.mpr ⟨List.mem_of_getElem? (i := 48) (by decide +kernel), by decide +kernel⟩
theorem m_36 : (.fieldLink R_S 30 "SettleLayers$Soil" "drainedAbove" "Z" : Cond) ∈ WA := List.mem_filter.mpr ⟨List.mem_of_getElem? (i := 49) (by decide +kernel), by decide +kernel⟩
theorem m_37 : (.fieldLink R_X 69 "SettleLayers$Soil" "drainedAbove" "Z" : Cond) ∈ WA := List.mem_filter.mpr ⟨List.mem_of_getElem? (i := 50) (by decide +kernel), by decide +kernel⟩
theorem m_38 : (.fieldLink R_G 71 "SettleLayers$Soil" "drainedAbove" "Z" : Cond) ∈ WA := List.mem_filter.mpr ⟨List.mem_of_getElem? (i := 51) (by decide +kernel), by decide +kernel⟩
theorem m_39 : (.fieldLink R_X 73 "SettleLayers$Soil" "drainedBelow" "Z" : Cond) ∈ WA := List.mem_filter.mpr ⟨List.mem_of_getElem? (i := 52) (by decide +kernel), by decide +kernel⟩
theorem m_40 : (.fieldLink R_G 82 "SettleLayers$Soil" "drainedBelow" "Z" : Cond) ∈ WA := List.mem_filter.mpr ⟨List.mem_of_getElem? (i := 53) (by decide +kernel), by decide +kernel⟩
theorem m_41 : (.fieldLink R_X 76 "SettleLayers$Soil" "drain" "I" : Cond) ∈ WA := List.mem_filter.mpr ⟨List.mem_of_getElem? (i := 54) (by decide +kernel), by decide +kernel⟩
theorem m_42 : (.fieldLink R_G 66 "SettleLayers$Soil" "drain" "I" : Cond) ∈ WA := List.mem_filter.mpr ⟨List.mem_of_getElem? (i := 55) (by decide +kernel), by decide +kernel⟩
theorem m_66 : (.arrayClass .int : Cond) ∈ WA := List.mem_filter.mpr ⟨List.mem_of_getElem? (i := 79) (by decide +kernel), by decide +kernel⟩
theorem m_67 : (.classLink R_X 16 R_O : Cond) ∈ WA := List.mem_filter.mpr ⟨List.mem_of_getElem? (i := 80) (by decide +kernel), by decide +kernel⟩
theorem m_68 : (.instantiable R_O 4 : Cond) ∈ WA := List.mem_filter.mpr ⟨List.mem_of_getElem? (i := 81) (by decide +kernel), by decide +kernel⟩
theorem m_70 : (.instanceMethod yO_init : Cond) ∈ WA := List.mem_filter.mpr ⟨List.mem_of_getElem? (i := 83) (by decide +kernel), by decide +kernel⟩
theorem m_71 : (.code yO_init prog_3_method_1_code 1 none : Cond) ∈ WA := List.mem_filter.mpr ⟨List.mem_of_getElem? (i := 84) (by decide +kernel), by decide +kernel⟩
theorem m_72 : (.methodLink R_O 3 objectInit : Cond) ∈ WA := List.mem_filter.mpr ⟨List.mem_of_getElem? (i := 85) (by decide +kernel), by decide +kernel⟩
theorem m_73 : (.fieldLink R_O 9 "SettleLayers$Loads" "day" "[I" : Cond) ∈ WA := List.mem_filter.mpr ⟨List.mem_of_getElem? (i := 86) (by decide +kernel), by decide +kernel⟩
theorem m_74 : (.fieldLink R_O 15 "SettleLayers$Loads" "pascals" "[I" : Cond) ∈ WA := List.mem_filter.mpr ⟨List.mem_of_getElem? (i := 87) (by decide +kernel), by decide +kernel⟩
theorem m_75 : (.fieldLink R_O 18 "SettleLayers$Loads" "many" "I" : Cond) ∈ WA := List.mem_filter.mpr ⟨List.mem_of_getElem? (i := 88) (by decide +kernel), by decide +kernel⟩
theorem m_76 : (.fieldLink R_X 50 "SettleLayers$Loads" "many" "I" : Cond) ∈ WA := List.mem_filter.mpr ⟨List.mem_of_getElem? (i := 89) (by decide +kernel), by decide +kernel⟩
theorem m_77 : (.fieldLink R_O 22 "SettleLayers$Loads" "sum" "J" : Cond) ∈ WA := List.mem_filter.mpr ⟨List.mem_of_getElem? (i := 90) (by decide +kernel), by decide +kernel⟩
theorem m_78 : (.fieldLink R_G 101 "SettleLayers$Loads" "sum" "J" : Cond) ∈ WA := List.mem_filter.mpr ⟨List.mem_of_getElem? (i := 91) (by decide +kernel), by decide +kernel⟩
theorem m_88 : (.classLink R_X 23 R_D : Cond) ∈ WA := List.mem_filter.mpr ⟨List.mem_of_getElem? (i := 101) (by decide +kernel), by decide +kernel⟩
theorem m_89 : (.instantiable R_D 3 : Cond) ∈ WA := List.mem_filter.mpr ⟨List.mem_of_getElem? (i := 102) (by decide +kernel), by decide +kernel⟩
theorem m_91 : (.instanceMethod yD_init : Cond) ∈ WA := List.mem_filter.mpr ⟨List.mem_of_getElem? (i := 104) (by decide +kernel), by decide +kernel⟩
theorem m_92 : (.code yD_init prog_4_method_1_code 1 none : Cond) ∈ WA := List.mem_filter.mpr ⟨List.mem_of_getElem? (i := 105) (by decide +kernel), by decide +kernel⟩
theorem m_93 : (.methodLink R_D 3 objectInit : Cond) ∈ WA := List.mem_filter.mpr ⟨List.mem_of_getElem? (i := 106) (by decide +kernel), by decide +kernel⟩
theorem m_94 : (.fieldLink R_D 9 "SettleLayers$Readings" "day" "[I" : Cond) ∈ WA := List.mem_filter.mpr ⟨List.mem_of_getElem? (i := 107) (by decide +kernel), by decide +kernel⟩
theorem m_95 : (.fieldLink R_X 159 "SettleLayers$Readings" "day" "[I" : Cond) ∈ WA := List.mem_filter.mpr ⟨List.mem_of_getElem? (i := 108) (by decide +kernel), by decide +kernel⟩
theorem m_96 : (.fieldLink R_D 15 "SettleLayers$Readings" "micrometres" "[J" : Cond) ∈ WA := List.mem_filter.mpr ⟨List.mem_of_getElem? (i := 109) (by decide +kernel), by decide +kernel⟩
theorem m_97 : (.fieldLink R_X 161 "SettleLayers$Readings" "micrometres" "[J" : Cond) ∈ WA := List.mem_filter.mpr ⟨List.mem_of_getElem? (i := 110) (by decide +kernel), by decide +kernel⟩
theorem m_98 : (.fieldLink R_D 19 "SettleLayers$Readings" "many" "I" : Cond) ∈ WA := List.mem_filter.mpr ⟨List.mem_of_getElem? (i := 111) (by decide +kernel), by decide +kernel⟩
theorem m_99 : (.fieldLink R_X 146 "SettleLayers$Readings" "many" "I" : Cond) ∈ WA := List.mem_filter.mpr ⟨List.mem_of_getElem? (i := 112) (by decide +kernel), by decide +kernel⟩
theorem m_107 : (.arrayClass .long : Cond) ∈ WA := List.mem_filter.mpr ⟨List.mem_of_getElem? (i := 120) (by decide +kernel), by decide +kernel⟩
theorem m_108 : (.classLink R_X 30 R_G : Cond) ∈ WA := List.mem_filter.mpr ⟨List.mem_of_getElem? (i := 121) (by decide +kernel), by decide +kernel⟩
theorem m_109 : (.instantiable R_G 7 : Cond) ∈ WA := List.mem_filter.mpr ⟨List.mem_of_getElem? (i := 122) (by decide +kernel), by decide +kernel⟩
theorem m_110 : (.methodLink R_X 32 yG_init : Cond) ∈ WA := List.mem_filter.mpr ⟨List.mem_of_getElem? (i := 123) (by decide +kernel), by decide +kernel⟩
theorem m_111 : (.instanceMethod yG_init : Cond) ∈ WA := List.mem_filter.mpr ⟨List.mem_of_getElem? (i := 124) (by decide +kernel), by decide +kernel⟩
theorem m_112 : (.code yG_init prog_2_method_1_code 3 none : Cond) ∈ WA := List.mem_filter.mpr ⟨List.mem_of_getElem? (i := 125) (by decide +kernel), by decide +kernel⟩
theorem m_113 : (.methodLink R_G 3 objectInit : Cond) ∈ WA := List.mem_filter.mpr ⟨List.mem_of_getElem? (i := 126) (by decide +kernel), by decide +kernel⟩
theorem m_114 : (.fieldLink R_G 18 "SettleLayers$Ground" "soil" "LSettleLayers$Soil;" : Cond) ∈ WA := List.mem_filter.mpr ⟨List.mem_of_getElem? (i := 127) (by decide +kernel), by decide +kernel⟩
theorem m_115 : (.fieldLink R_G 22 "SettleLayers$Ground" "loads" "LSettleLayers$Loads;" : Cond) ∈ WA := List.mem_filter.mpr ⟨List.mem_of_getElem? (i := 128) (by decide +kernel), by decide +kernel⟩
theorem m_116 : (.fieldLink R_G 9 "SettleLayers$Ground" "pressure" "[J" : Cond) ∈ WA := List.mem_filter.mpr ⟨List.mem_of_getElem? (i := 129) (by decide +kernel), by decide +kernel⟩
theorem m_117 : (.fieldLink R_X 105 "SettleLayers$Ground" "pressure" "[J" : Cond) ∈ WA := List.mem_filter.mpr ⟨List.mem_of_getElem? (i := 130) (by decide +kernel), by decide +kernel⟩
theorem m_118 : (.fieldLink R_G 15 "SettleLayers$Ground" "past" "[J" : Cond) ∈ WA := List.mem_filter.mpr ⟨List.mem_of_getElem? (i := 131) (by decide +kernel), by decide +kernel⟩
theorem m_119 : (.fieldLink R_X 112 "SettleLayers$Ground" "past" "[J" : Cond) ∈ WA := List.mem_filter.mpr ⟨List.mem_of_getElem? (i := 132) (by decide +kernel), by decide +kernel⟩
theorem m_120 : (.fieldLink R_X 46 "SettleLayers$Ground" "day" "I" : Cond) ∈ WA := List.mem_filter.mpr ⟨List.mem_of_getElem? (i := 133) (by decide +kernel), by decide +kernel⟩
theorem m_121 : (.fieldLink R_G 26 "SettleLayers$Ground" "day" "I" : Cond) ∈ WA := List.mem_filter.mpr ⟨List.mem_of_getElem? (i := 134) (by decide +kernel), by decide +kernel⟩
theorem m_122 : (.fieldLink R_G 30 "SettleLayers$Ground" "come" "J" : Cond) ∈ WA := List.mem_filter.mpr ⟨List.mem_of_getElem? (i := 135) (by decide +kernel), by decide +kernel⟩
theorem m_123 : (.fieldLink R_X 119 "SettleLayers$Ground" "come" "J" : Cond) ∈ WA := List.mem_filter.mpr ⟨List.mem_of_getElem? (i := 136) (by decide +kernel), by decide +kernel⟩
theorem m_124 : (.fieldLink R_G 34 "SettleLayers$Ground" "waterOut" "J" : Cond) ∈ WA := List.mem_filter.mpr ⟨List.mem_of_getElem? (i := 137) (by decide +kernel), by decide +kernel⟩
theorem m_125 : (.fieldLink R_X 115 "SettleLayers$Ground" "waterOut" "J" : Cond) ∈ WA := List.mem_filter.mpr ⟨List.mem_of_getElem? (i := 138) (by decide +kernel), by decide +kernel⟩
theorem m_141 : (.fieldLink R_X 10 "SettleLayers" "soil" "LSettleLayers$Soil;" : Cond) ∈ WA := List.mem_filter.mpr ⟨List.mem_of_getElem? (i := 154) (by decide +kernel), by decide +kernel⟩
theorem m_142 : (.fieldLink R_X 19 "SettleLayers" "loads" "LSettleLayers$Loads;" : Cond) ∈ WA := List.mem_filter.mpr ⟨List.mem_of_getElem? (i := 155) (by decide +kernel), by decide +kernel⟩
theorem m_143 : (.fieldLink R_X 26 "SettleLayers" "readings" "LSettleLayers$Readings;" : Cond) ∈ WA := List.mem_filter.mpr ⟨List.mem_of_getElem? (i := 156) (by decide +kernel), by decide +kernel⟩
theorem m_144 : (.fieldLink R_X 35 "SettleLayers" "now" "LSettleLayers$Ground;" : Cond) ∈ WA := List.mem_filter.mpr ⟨List.mem_of_getElem? (i := 157) (by decide +kernel), by decide +kernel⟩
theorem m_145 : (.fieldLink R_X 39 "SettleLayers" "trial" "LSettleLayers$Ground;" : Cond) ∈ WA := List.mem_filter.mpr ⟨List.mem_of_getElem? (i := 158) (by decide +kernel), by decide +kernel⟩
theorem m_146 : (.fieldLink R_X 42 "SettleLayers" "micrometresAtDay" "[J" : Cond) ∈ WA := List.mem_filter.mpr ⟨List.mem_of_getElem? (i := 159) (by decide +kernel), by decide +kernel⟩
theorem m_160 : (.methodLink "SettleLayersLaw" 13 yX_layer : Cond) ∈ WA := List.mem_filter.mpr ⟨List.mem_of_getElem? (i := 173) (by decide +kernel), by decide +kernel⟩
theorem m_161 : (.instanceMethod yX_layer : Cond) ∈ WA := List.mem_filter.mpr ⟨List.mem_of_getElem? (i := 174) (by decide +kernel), by decide +kernel⟩
theorem m_162 : (.selects R_X yX_layer yX_layer : Cond) ∈ WA := List.mem_filter.mpr ⟨List.mem_of_getElem? (i := 175) (by decide +kernel), by decide +kernel⟩
theorem m_163 : (.code yX_layer prog_1_method_2_code 6 (some .int) : Cond) ∈ WA := List.mem_filter.mpr ⟨List.mem_of_getElem? (i := 176) (by decide +kernel), by decide +kernel⟩
theorem m_164 : (.methodLink R_X 53 yX_within : Cond) ∈ WA := List.mem_filter.mpr ⟨List.mem_of_getElem? (i := 177) (by decide +kernel), by decide +kernel⟩
theorem m_165 : (.static yX_within : Cond) ∈ WA := List.mem_filter.mpr ⟨List.mem_of_getElem? (i := 178) (by decide +kernel), by decide +kernel⟩
theorem m_166 : (.code yX_within prog_1_method_19_code 3 (some .boolean) : Cond) ∈ WA := List.mem_filter.mpr ⟨List.mem_of_getElem? (i := 179) (by decide +kernel), by decide +kernel⟩
theorem m_167 : (.constant R_X 60 1000000 : Cond) ∈ WA := List.mem_filter.mpr ⟨List.mem_of_getElem? (i := 180) (by decide +kernel), by decide +kernel⟩
theorem m_168 : (.methodLink R_X 61 yG_begin : Cond) ∈ WA := List.mem_filter.mpr ⟨List.mem_of_getElem? (i := 181) (by decide +kernel), by decide +kernel⟩
theorem m_169 : (.instanceMethod yG_begin : Cond) ∈ WA := List.mem_filter.mpr ⟨List.mem_of_getElem? (i := 182) (by decide +kernel), by decide +kernel⟩
theorem m_170 : (.selects R_G yG_begin yG_begin : Cond) ∈ WA := List.mem_filter.mpr ⟨List.mem_of_getElem? (i := 183) (by decide +kernel), by decide +kernel⟩
theorem m_171 : (.code yG_begin prog_2_method_2_code 5 none : Cond) ∈ WA := List.mem_filter.mpr ⟨List.mem_of_getElem? (i := 184) (by decide +kernel), by decide +kernel⟩
theorem m_172 : (.methodLink R_X 65 yS_addLayer : Cond) ∈ WA := List.mem_filter.mpr ⟨List.mem_of_getElem? (i := 185) (by decide +kernel), by decide +kernel⟩
theorem m_173 : (.instanceMethod yS_addLayer : Cond) ∈ WA := List.mem_filter.mpr ⟨List.mem_of_getElem? (i := 186) (by decide +kernel), by decide +kernel⟩
theorem m_174 : (.selects R_S yS_addLayer yS_addLayer : Cond) ∈ WA := List.mem_filter.mpr ⟨List.mem_of_getElem? (i := 187) (by decide +kernel), by decide +kernel⟩
theorem m_175 : (.code yS_addLayer prog_5_method_2_code 7 (some .int) : Cond) ∈ WA := List.mem_filter.mpr ⟨List.mem_of_getElem? (i := 188) (by decide +kernel), by decide +kernel⟩
theorem m_176 : (.methodLink R_S 38 Lib.Math.min.name : Cond) ∈ WA := List.mem_filter.mpr ⟨List.mem_of_getElem? (i := 189) (by decide +kernel), by decide +kernel⟩
theorem m_177 : (.static Lib.Math.min.name : Cond) ∈ WA := List.mem_filter.mpr ⟨List.mem_of_getElem? (i := 190) (by decide +kernel), by decide +kernel⟩
theorem m_178 : (.code Lib.Math.min.name Lib.Math.min.code 2 (some .int) : Cond) ∈ WA := List.mem_filter.mpr ⟨List.mem_of_getElem? (i := 191) (by decide +kernel), by decide +kernel⟩
theorem m_179 : (.methodLink "SettleLayersLaw" 18 yX_drains : Cond) ∈ WA := List.mem_filter.mpr ⟨List.mem_of_getElem? (i := 192) (by decide +kernel), by decide +kernel⟩
theorem m_180 : (.instanceMethod yX_drains : Cond) ∈ WA := List.mem_filter.mpr ⟨List.mem_of_getElem? (i := 193) (by decide +kernel), by decide +kernel⟩
theorem m_181 : (.selects R_X yX_drains yX_drains : Cond) ∈ WA := List.mem_filter.mpr ⟨List.mem_of_getElem? (i := 194) (by decide +kernel), by decide +kernel⟩
theorem m_182 : (.code yX_drains prog_1_method_3_code 4 (some .boolean) : Cond) ∈ WA := List.mem_filter.mpr ⟨List.mem_of_getElem? (i := 195) (by decide +kernel), by decide +kernel⟩
theorem m_183 : (.methodLink "SettleLayersLaw" 23 yX_load : Cond) ∈ WA := List.mem_filter.mpr ⟨List.mem_of_getElem? (i := 196) (by decide +kernel), by decide +kernel⟩
theorem m_184 : (.instanceMethod yX_load : Cond) ∈ WA := List.mem_filter.mpr ⟨List.mem_of_getElem? (i := 197) (by decide +kernel), by decide +kernel⟩
theorem m_185 : (.selects R_X yX_load yX_load : Cond) ∈ WA := List.mem_filter.mpr ⟨List.mem_of_getElem? (i := 198) (by decide +kernel), by decide +kernel⟩
theorem m_186 : (.code yX_load prog_1_method_4_code 3 (some .int) : Cond) ∈ WA := List.mem_filter.mpr ⟨List.mem_of_getElem? (i := 199) (by decide +kernel), by decide +kernel⟩
theorem m_187 : (.constant R_X 79 200000 : Cond) ∈ WA := List.mem_filter.mpr ⟨List.mem_of_getElem? (i := 200) (by decide +kernel), by decide +kernel⟩
theorem m_188 : (.methodLink R_X 80 yO_add : Cond) ∈ WA := List.mem_filter.mpr ⟨List.mem_of_getElem? (i := 201) (by decide +kernel), by decide +kernel⟩
theorem m_189 : (.instanceMethod yO_add : Cond) ∈ WA := List.mem_filter.mpr ⟨List.mem_of_getElem? (i := 202) (by decide +kernel), by decide +kernel⟩
theorem m_190 : (.selects R_O yO_add yO_add : Cond) ∈ WA := List.mem_filter.mpr ⟨List.mem_of_getElem? (i := 203) (by decide +kernel), by decide +kernel⟩
theorem m_191 : (.code yO_add prog_3_method_2_code 3 (some .int) : Cond) ∈ WA := List.mem_filter.mpr ⟨List.mem_of_getElem? (i := 204) (by decide +kernel), by decide +kernel⟩
theorem m_192 : (.methodLink "SettleLayersLaw" 28 yX_run : Cond) ∈ WA := List.mem_filter.mpr ⟨List.mem_of_getElem? (i := 205) (by decide +kernel), by decide +kernel⟩
theorem m_193 : (.instanceMethod yX_run : Cond) ∈ WA := List.mem_filter.mpr ⟨List.mem_of_getElem? (i := 206) (by decide +kernel), by decide +kernel⟩
theorem m_194 : (.selects R_X yX_run yX_run : Cond) ∈ WA := List.mem_filter.mpr ⟨List.mem_of_getElem? (i := 207) (by decide +kernel), by decide +kernel⟩
theorem m_195 : (.code yX_run prog_1_method_5_code 3 (some .int) : Cond) ∈ WA := List.mem_filter.mpr ⟨List.mem_of_getElem? (i := 208) (by decide +kernel), by decide +kernel⟩
theorem m_196 : (.methodLink R_X 84 yG_passDay : Cond) ∈ WA := List.mem_filter.mpr ⟨List.mem_of_getElem? (i := 209) (by decide +kernel), by decide +kernel⟩
theorem m_197 : (.instanceMethod yG_passDay : Cond) ∈ WA := List.mem_filter.mpr ⟨List.mem_of_getElem? (i := 210) (by decide +kernel), by decide +kernel⟩
theorem m_198 : (.selects R_G yG_passDay yG_passDay : Cond) ∈ WA := List.mem_filter.mpr ⟨List.mem_of_getElem? (i := 211) (by decide +kernel), by decide +kernel⟩
theorem m_199 : (.code yG_passDay prog_2_method_5_code 3 none : Cond) ∈ WA := List.mem_filter.mpr ⟨List.mem_of_getElem? (i := 212) (by decide +kernel), by decide +kernel⟩
theorem m_200 : (.methodLink R_G 42 yO_comingOn : Cond) ∈ WA := List.mem_filter.mpr ⟨List.mem_of_getElem? (i := 213) (by decide +kernel), by decide +kernel⟩
theorem m_201 : (.instanceMethod yO_comingOn : Cond) ∈ WA := List.mem_filter.mpr ⟨List.mem_of_getElem? (i := 214) (by decide +kernel), by decide +kernel⟩
theorem m_202 : (.selects R_O yO_comingOn yO_comingOn : Cond) ∈ WA := List.mem_filter.mpr ⟨List.mem_of_getElem? (i := 215) (by decide +kernel), by decide +kernel⟩
theorem m_203 : (.code yO_comingOn prog_3_method_3_code 5 (some .long) : Cond) ∈ WA := List.mem_filter.mpr ⟨List.mem_of_getElem? (i := 216) (by decide +kernel), by decide +kernel⟩
theorem m_204 : (.methodLink R_G 48 yG_lay : Cond) ∈ WA := List.mem_filter.mpr ⟨List.mem_of_getElem? (i := 217) (by decide +kernel), by decide +kernel⟩
theorem m_205 : (.instanceMethod yG_lay : Cond) ∈ WA := List.mem_filter.mpr ⟨List.mem_of_getElem? (i := 218) (by decide +kernel), by decide +kernel⟩
theorem m_206 : (.selects R_G yG_lay yG_lay : Cond) ∈ WA := List.mem_filter.mpr ⟨List.mem_of_getElem? (i := 219) (by decide +kernel), by decide +kernel⟩
theorem m_207 : (.code yG_lay prog_2_method_4_code 4 none : Cond) ∈ WA := List.mem_filter.mpr ⟨List.mem_of_getElem? (i := 220) (by decide +kernel), by decide +kernel⟩
theorem m_208 : (.methodLink R_G 52 yG_moveWater : Cond) ∈ WA := List.mem_filter.mpr ⟨List.mem_of_getElem? (i := 221) (by decide +kernel), by decide +kernel⟩
theorem m_210 : (.instanceMethod yG_moveWater : Cond) ∈ WA := List.mem_filter.mpr ⟨List.mem_of_getElem? (i := 223) (by decide +kernel), by decide +kernel⟩
theorem m_211 : (.code yG_moveWater prog_2_method_6_code 9 (some .boolean) : Cond) ∈ WA := List.mem_filter.mpr ⟨List.mem_of_getElem? (i := 224) (by decide +kernel), by decide +kernel⟩
theorem m_212 : (.methodLink R_G 59 yG_leavingAbove : Cond) ∈ WA := List.mem_filter.mpr ⟨List.mem_of_getElem? (i := 225) (by decide +kernel), by decide +kernel⟩
theorem m_214 : (.instanceMethod yG_leavingAbove : Cond) ∈ WA := List.mem_filter.mpr ⟨List.mem_of_getElem? (i := 227) (by decide +kernel), by decide +kernel⟩
theorem m_215 : (.code yG_leavingAbove prog_2_method_7_code 1 (some .long) : Cond) ∈ WA := List.mem_filter.mpr ⟨List.mem_of_getElem? (i := 228) (by decide +kernel), by decide +kernel⟩
theorem m_216 : (.constantLong R_G 69 1000 : Cond) ∈ WA := List.mem_filter.mpr ⟨List.mem_of_getElem? (i := 229) (by decide +kernel), by decide +kernel⟩
theorem m_217 : (.methodLink R_G 63 yG_goingBelow : Cond) ∈ WA := List.mem_filter.mpr ⟨List.mem_of_getElem? (i := 230) (by decide +kernel), by decide +kernel⟩
theorem m_219 : (.instanceMethod yG_goingBelow : Cond) ∈ WA := List.mem_filter.mpr ⟨List.mem_of_getElem? (i := 232) (by decide +kernel), by decide +kernel⟩
theorem m_220 : (.code yG_goingBelow prog_2_method_8_code 2 (some .long) : Cond) ∈ WA := List.mem_filter.mpr ⟨List.mem_of_getElem? (i := 233) (by decide +kernel), by decide +kernel⟩
theorem m_221 : (.methodLink R_G 56 yG_raisePasts : Cond) ∈ WA := List.mem_filter.mpr ⟨List.mem_of_getElem? (i := 234) (by decide +kernel), by decide +kernel⟩
theorem m_223 : (.instanceMethod yG_raisePasts : Cond) ∈ WA := List.mem_filter.mpr ⟨List.mem_of_getElem? (i := 236) (by decide +kernel), by decide +kernel⟩
theorem m_224 : (.code yG_raisePasts prog_2_method_9_code 2 none : Cond) ∈ WA := List.mem_filter.mpr ⟨List.mem_of_getElem? (i := 237) (by decide +kernel), by decide +kernel⟩
theorem m_225 : (.methodLink R_G 85 yG_carried : Cond) ∈ WA := List.mem_filter.mpr ⟨List.mem_of_getElem? (i := 238) (by decide +kernel), by decide +kernel⟩
theorem m_226 : (.instanceMethod yG_carried : Cond) ∈ WA := List.mem_filter.mpr ⟨List.mem_of_getElem? (i := 239) (by decide +kernel), by decide +kernel⟩
theorem m_227 : (.selects R_G yG_carried yG_carried : Cond) ∈ WA := List.mem_filter.mpr ⟨List.mem_of_getElem? (i := 240) (by decide +kernel), by decide +kernel⟩
theorem m_228 : (.code yG_carried prog_2_method_10_code 2 (some .long) : Cond) ∈ WA := List.mem_filter.mpr ⟨List.mem_of_getElem? (i := 241) (by decide +kernel), by decide +kernel⟩
theorem m_229 : (.methodLink R_G 88 Lib.MathLoose.max_long.x : Cond) ∈ WA := List.mem_filter.mpr ⟨List.mem_of_getElem? (i := 242) (by decide +kernel), by decide +kernel⟩
theorem m_230 : (.static Lib.MathLoose.max_long.x : Cond) ∈ WA := List.mem_filter.mpr ⟨List.mem_of_getElem? (i := 243) (by decide +kernel), by decide +kernel⟩
theorem m_231 : (.code Lib.MathLoose.max_long.x Lib.MathLoose.max_long.code 4 (some .long) : Cond) ∈ WA := List.mem_filter.mpr ⟨List.mem_of_getElem? (i := 244) (by decide +kernel), by decide +kernel⟩
theorem m_232 : (.methodLink R_X 87 yG_unitsSunk : Cond) ∈ WA := List.mem_filter.mpr ⟨List.mem_of_getElem? (i := 245) (by decide +kernel), by decide +kernel⟩
theorem m_233 : (.instanceMethod yG_unitsSunk : Cond) ∈ WA := List.mem_filter.mpr ⟨List.mem_of_getElem? (i := 246) (by decide +kernel), by decide +kernel⟩
theorem m_234 : (.selects R_G yG_unitsSunk yG_unitsSunk : Cond) ∈ WA := List.mem_filter.mpr ⟨List.mem_of_getElem? (i := 247) (by decide +kernel), by decide +kernel⟩
theorem m_235 : (.code yG_unitsSunk prog_2_method_12_code 1 (some .long) : Cond) ∈ WA := List.mem_filter.mpr ⟨List.mem_of_getElem? (i := 248) (by decide +kernel), by decide +kernel⟩
theorem m_236 : (.methodLink R_G 94 yG_unitsSunk2 : Cond) ∈ WA := List.mem_filter.mpr ⟨List.mem_of_getElem? (i := 249) (by decide +kernel), by decide +kernel⟩
theorem m_237 : (.instanceMethod yG_unitsSunk2 : Cond) ∈ WA := List.mem_filter.mpr ⟨List.mem_of_getElem? (i := 250) (by decide +kernel), by decide +kernel⟩
theorem m_238 : (.selects R_G yG_unitsSunk2 yG_unitsSunk2 : Cond) ∈ WA := List.mem_filter.mpr ⟨List.mem_of_getElem? (i := 251) (by decide +kernel), by decide +kernel⟩
theorem m_239 : (.code yG_unitsSunk2 prog_2_method_13_code 6 (some .long) : Cond) ∈ WA := List.mem_filter.mpr ⟨List.mem_of_getElem? (i := 252) (by decide +kernel), by decide +kernel⟩
theorem m_240 : (.methodLink R_G 98 yS_unitsSunk : Cond) ∈ WA := List.mem_filter.mpr ⟨List.mem_of_getElem? (i := 253) (by decide +kernel), by decide +kernel⟩
theorem m_241 : (.instanceMethod yS_unitsSunk : Cond) ∈ WA := List.mem_filter.mpr ⟨List.mem_of_getElem? (i := 254) (by decide +kernel), by decide +kernel⟩
theorem m_242 : (.selects R_S yS_unitsSunk yS_unitsSunk : Cond) ∈ WA := List.mem_filter.mpr ⟨List.mem_of_getElem? (i := 255) (by decide +kernel), by decide +kernel⟩
theorem m_243 : (.code yS_unitsSunk prog_5_method_3_code 6 (some .long) : Cond) ∈ WA := List.mem_filter.mpr ⟨List.mem_of_getElem? (i := 256) (by decide +kernel), by decide +kernel⟩
theorem m_244 : (.constantLong R_X 91 1000 : Cond) ∈ WA := List.mem_filter.mpr ⟨List.mem_of_getElem? (i := 257) (by decide +kernel), by decide +kernel⟩
theorem m_245 : (.methodLink "SettleLayersLaw" 33 yX_sunk : Cond) ∈ WA := List.mem_filter.mpr ⟨List.mem_of_getElem? (i := 258) (by decide +kernel), by decide +kernel⟩
theorem m_246 : (.instanceMethod yX_sunk : Cond) ∈ WA := List.mem_filter.mpr ⟨List.mem_of_getElem? (i := 259) (by decide +kernel), by decide +kernel⟩
theorem m_247 : (.selects R_X yX_sunk yX_sunk : Cond) ∈ WA := List.mem_filter.mpr ⟨List.mem_of_getElem? (i := 260) (by decide +kernel), by decide +kernel⟩
theorem m_248 : (.code yX_sunk prog_1_method_6_code 2 (some .long) : Cond) ∈ WA := List.mem_filter.mpr ⟨List.mem_of_getElem? (i := 261) (by decide +kernel), by decide +kernel⟩
theorem m_249 : (.constantLong R_X 96 (-1) : Cond) ∈ WA := List.mem_filter.mpr ⟨List.mem_of_getElem? (i := 262) (by decide +kernel), by decide +kernel⟩
theorem m_250 : (.methodLink R_X 102 yG_unitsSunk2 : Cond) ∈ WA := List.mem_filter.mpr ⟨List.mem_of_getElem? (i := 263) (by decide +kernel), by decide +kernel⟩
theorem m_251 : (.methodLink "SettleLayersLaw" 38 yX_told : Cond) ∈ WA := List.mem_filter.mpr ⟨List.mem_of_getElem? (i := 264) (by decide +kernel), by decide +kernel⟩
theorem m_252 : (.instanceMethod yX_told : Cond) ∈ WA := List.mem_filter.mpr ⟨List.mem_of_getElem? (i := 265) (by decide +kernel), by decide +kernel⟩
theorem m_253 : (.selects R_X yX_told yX_told : Cond) ∈ WA := List.mem_filter.mpr ⟨List.mem_of_getElem? (i := 266) (by decide +kernel), by decide +kernel⟩
theorem m_254 : (.code yX_told prog_1_method_7_code 3 (some .int) : Cond) ∈ WA := List.mem_filter.mpr ⟨List.mem_of_getElem? (i := 267) (by decide +kernel), by decide +kernel⟩
theorem m_255 : (.methodLink R_X 108 yG_carried : Cond) ∈ WA := List.mem_filter.mpr ⟨List.mem_of_getElem? (i := 268) (by decide +kernel), by decide +kernel⟩
theorem m_256 : (.methodLink "SettleLayersLaw" 42 yX_out : Cond) ∈ WA := List.mem_filter.mpr ⟨List.mem_of_getElem? (i := 269) (by decide +kernel), by decide +kernel⟩
theorem m_257 : (.instanceMethod yX_out : Cond) ∈ WA := List.mem_filter.mpr ⟨List.mem_of_getElem? (i := 270) (by decide +kernel), by decide +kernel⟩
theorem m_258 : (.selects R_X yX_out yX_out : Cond) ∈ WA := List.mem_filter.mpr ⟨List.mem_of_getElem? (i := 271) (by decide +kernel), by decide +kernel⟩
theorem m_259 : (.code yX_out prog_1_method_8_code 1 (some .long) : Cond) ∈ WA := List.mem_filter.mpr ⟨List.mem_of_getElem? (i := 272) (by decide +kernel), by decide +kernel⟩
theorem m_260 : (.methodLink "SettleLayersLaw" 47 yX_balance : Cond) ∈ WA := List.mem_filter.mpr ⟨List.mem_of_getElem? (i := 273) (by decide +kernel), by decide +kernel⟩
theorem m_261 : (.instanceMethod yX_balance : Cond) ∈ WA := List.mem_filter.mpr ⟨List.mem_of_getElem? (i := 274) (by decide +kernel), by decide +kernel⟩
theorem m_262 : (.selects R_X yX_balance yX_balance : Cond) ∈ WA := List.mem_filter.mpr ⟨List.mem_of_getElem? (i := 275) (by decide +kernel), by decide +kernel⟩
theorem m_263 : (.code yX_balance prog_1_method_9_code 1 (some .boolean) : Cond) ∈ WA := List.mem_filter.mpr ⟨List.mem_of_getElem? (i := 276) (by decide +kernel), by decide +kernel⟩
theorem m_264 : (.methodLink R_X 122 yG_allPressures : Cond) ∈ WA := List.mem_filter.mpr ⟨List.mem_of_getElem? (i := 277) (by decide +kernel), by decide +kernel⟩
theorem m_265 : (.instanceMethod yG_allPressures : Cond) ∈ WA := List.mem_filter.mpr ⟨List.mem_of_getElem? (i := 278) (by decide +kernel), by decide +kernel⟩
theorem m_266 : (.selects R_G yG_allPressures yG_allPressures : Cond) ∈ WA := List.mem_filter.mpr ⟨List.mem_of_getElem? (i := 279) (by decide +kernel), by decide +kernel⟩
theorem m_267 : (.code yG_allPressures prog_2_method_11_code 4 (some .long) : Cond) ∈ WA := List.mem_filter.mpr ⟨List.mem_of_getElem? (i := 280) (by decide +kernel), by decide +kernel⟩
theorem m_268 : (.methodLink "SettleLayersLaw" 52 yX_end : Cond) ∈ WA := List.mem_filter.mpr ⟨List.mem_of_getElem? (i := 281) (by decide +kernel), by decide +kernel⟩
theorem m_269 : (.instanceMethod yX_end : Cond) ∈ WA := List.mem_filter.mpr ⟨List.mem_of_getElem? (i := 282) (by decide +kernel), by decide +kernel⟩
theorem m_270 : (.selects R_X yX_end yX_end : Cond) ∈ WA := List.mem_filter.mpr ⟨List.mem_of_getElem? (i := 283) (by decide +kernel), by decide +kernel⟩
theorem m_271 : (.code yX_end prog_1_method_10_code 1 (some .long) : Cond) ∈ WA := List.mem_filter.mpr ⟨List.mem_of_getElem? (i := 284) (by decide +kernel), by decide +kernel⟩
theorem m_272 : (.methodLink R_X 125 yG_unitsAtEnd : Cond) ∈ WA := List.mem_filter.mpr ⟨List.mem_of_getElem? (i := 285) (by decide +kernel), by decide +kernel⟩
theorem m_273 : (.instanceMethod yG_unitsAtEnd : Cond) ∈ WA := List.mem_filter.mpr ⟨List.mem_of_getElem? (i := 286) (by decide +kernel), by decide +kernel⟩
theorem m_274 : (.selects R_G yG_unitsAtEnd yG_unitsAtEnd : Cond) ∈ WA := List.mem_filter.mpr ⟨List.mem_of_getElem? (i := 287) (by decide +kernel), by decide +kernel⟩
theorem m_275 : (.code yG_unitsAtEnd prog_2_method_14_code 4 (some .long) : Cond) ∈ WA := List.mem_filter.mpr ⟨List.mem_of_getElem? (i := 288) (by decide +kernel), by decide +kernel⟩
theorem m_276 : (.methodLink "SettleLayersLaw" 56 yX_share : Cond) ∈ WA := List.mem_filter.mpr ⟨List.mem_of_getElem? (i := 289) (by decide +kernel), by decide +kernel⟩
theorem m_277 : (.instanceMethod yX_share : Cond) ∈ WA := List.mem_filter.mpr ⟨List.mem_of_getElem? (i := 290) (by decide +kernel), by decide +kernel⟩
theorem m_278 : (.selects R_X yX_share yX_share : Cond) ∈ WA := List.mem_filter.mpr ⟨List.mem_of_getElem? (i := 291) (by decide +kernel), by decide +kernel⟩
theorem m_279 : (.code yX_share prog_1_method_11_code 1 (some .int) : Cond) ∈ WA := List.mem_filter.mpr ⟨List.mem_of_getElem? (i := 292) (by decide +kernel), by decide +kernel⟩
theorem m_280 : (.methodLink R_X 128 yX_thousandths : Cond) ∈ WA := List.mem_filter.mpr ⟨List.mem_of_getElem? (i := 293) (by decide +kernel), by decide +kernel⟩
theorem m_281 : (.static yX_thousandths : Cond) ∈ WA := List.mem_filter.mpr ⟨List.mem_of_getElem? (i := 294) (by decide +kernel), by decide +kernel⟩
theorem m_282 : (.code yX_thousandths prog_1_method_20_code 4 (some .int) : Cond) ∈ WA := List.mem_filter.mpr ⟨List.mem_of_getElem? (i := 295) (by decide +kernel), by decide +kernel⟩
theorem m_283 : (.methodLink "SettleLayersLaw" 61 yX_until : Cond) ∈ WA := List.mem_filter.mpr ⟨List.mem_of_getElem? (i := 296) (by decide +kernel), by decide +kernel⟩
theorem m_284 : (.instanceMethod yX_until : Cond) ∈ WA := List.mem_filter.mpr ⟨List.mem_of_getElem? (i := 297) (by decide +kernel), by decide +kernel⟩
theorem m_285 : (.selects R_X yX_until yX_until : Cond) ∈ WA := List.mem_filter.mpr ⟨List.mem_of_getElem? (i := 298) (by decide +kernel), by decide +kernel⟩
theorem m_286 : (.code yX_until prog_1_method_12_code 5 (some .int) : Cond) ∈ WA := List.mem_filter.mpr ⟨List.mem_of_getElem? (i := 299) (by decide +kernel), by decide +kernel⟩
theorem m_287 : (.methodLink R_X 132 yG_become : Cond) ∈ WA := List.mem_filter.mpr ⟨List.mem_of_getElem? (i := 300) (by decide +kernel), by decide +kernel⟩
theorem m_288 : (.instanceMethod yG_become : Cond) ∈ WA := List.mem_filter.mpr ⟨List.mem_of_getElem? (i := 301) (by decide +kernel), by decide +kernel⟩
theorem m_289 : (.selects R_G yG_become yG_become : Cond) ∈ WA := List.mem_filter.mpr ⟨List.mem_of_getElem? (i := 302) (by decide +kernel), by decide +kernel⟩
theorem m_290 : (.code yG_become prog_2_method_3_code 3 none : Cond) ∈ WA := List.mem_filter.mpr ⟨List.mem_of_getElem? (i := 303) (by decide +kernel), by decide +kernel⟩
theorem m_291 : (.methodLink "SettleLayersLaw" 65 yX_surcharge : Cond) ∈ WA := List.mem_filter.mpr ⟨List.mem_of_getElem? (i := 304) (by decide +kernel), by decide +kernel⟩
theorem m_292 : (.instanceMethod yX_surcharge : Cond) ∈ WA := List.mem_filter.mpr ⟨List.mem_of_getElem? (i := 305) (by decide +kernel), by decide +kernel⟩
theorem m_293 : (.selects R_X yX_surcharge yX_surcharge : Cond) ∈ WA := List.mem_filter.mpr ⟨List.mem_of_getElem? (i := 306) (by decide +kernel), by decide +kernel⟩
theorem m_294 : (.code yX_surcharge prog_1_method_13_code 6 (some .int) : Cond) ∈ WA := List.mem_filter.mpr ⟨List.mem_of_getElem? (i := 307) (by decide +kernel), by decide +kernel⟩
theorem m_295 : (.constant R_X 136 100000 : Cond) ∈ WA := List.mem_filter.mpr ⟨List.mem_of_getElem? (i := 308) (by decide +kernel), by decide +kernel⟩
theorem m_296 : (.methodLink R_X 137 yX_unitsSunkWith : Cond) ∈ WA := List.mem_filter.mpr ⟨List.mem_of_getElem? (i := 309) (by decide +kernel), by decide +kernel⟩
theorem m_298 : (.instanceMethod yX_unitsSunkWith : Cond) ∈ WA := List.mem_filter.mpr ⟨List.mem_of_getElem? (i := 311) (by decide +kernel), by decide +kernel⟩
theorem m_299 : (.code yX_unitsSunkWith prog_1_method_18_code 4 (some .long) : Cond) ∈ WA := List.mem_filter.mpr ⟨List.mem_of_getElem? (i := 312) (by decide +kernel), by decide +kernel⟩
theorem m_300 : (.methodLink R_X 170 yG_lay : Cond) ∈ WA := List.mem_filter.mpr ⟨List.mem_of_getElem? (i := 313) (by decide +kernel), by decide +kernel⟩
theorem m_301 : (.methodLink "SettleLayersLaw" 71 yX_read : Cond) ∈ WA := List.mem_filter.mpr ⟨List.mem_of_getElem? (i := 314) (by decide +kernel), by decide +kernel⟩
theorem m_302 : (.instanceMethod yX_read : Cond) ∈ WA := List.mem_filter.mpr ⟨List.mem_of_getElem? (i := 315) (by decide +kernel), by decide +kernel⟩
theorem m_303 : (.selects R_X yX_read yX_read : Cond) ∈ WA := List.mem_filter.mpr ⟨List.mem_of_getElem? (i := 316) (by decide +kernel), by decide +kernel⟩
theorem m_304 : (.code yX_read prog_1_method_14_code 4 (some .int) : Cond) ∈ WA := List.mem_filter.mpr ⟨List.mem_of_getElem? (i := 317) (by decide +kernel), by decide +kernel⟩
theorem m_305 : (.methodLink R_X 140 yD_firstFreeDay : Cond) ∈ WA := List.mem_filter.mpr ⟨List.mem_of_getElem? (i := 318) (by decide +kernel), by decide +kernel⟩
theorem m_306 : (.instanceMethod yD_firstFreeDay : Cond) ∈ WA := List.mem_filter.mpr ⟨List.mem_of_getElem? (i := 319) (by decide +kernel), by decide +kernel⟩
theorem m_307 : (.selects R_D yD_firstFreeDay yD_firstFreeDay : Cond) ∈ WA := List.mem_filter.mpr ⟨List.mem_of_getElem? (i := 320) (by decide +kernel), by decide +kernel⟩
theorem m_308 : (.code yD_firstFreeDay prog_4_method_2_code 1 (some .int) : Cond) ∈ WA := List.mem_filter.mpr ⟨List.mem_of_getElem? (i := 321) (by decide +kernel), by decide +kernel⟩
theorem m_309 : (.constantLong R_X 144 1000000000000 : Cond) ∈ WA := List.mem_filter.mpr ⟨List.mem_of_getElem? (i := 322) (by decide +kernel), by decide +kernel⟩
theorem m_310 : (.methodLink R_X 147 yD_add : Cond) ∈ WA := List.mem_filter.mpr ⟨List.mem_of_getElem? (i := 323) (by decide +kernel), by decide +kernel⟩
theorem m_311 : (.instanceMethod yD_add : Cond) ∈ WA := List.mem_filter.mpr ⟨List.mem_of_getElem? (i := 324) (by decide +kernel), by decide +kernel⟩
theorem m_312 : (.selects R_D yD_add yD_add : Cond) ∈ WA := List.mem_filter.mpr ⟨List.mem_of_getElem? (i := 325) (by decide +kernel), by decide +kernel⟩
theorem m_313 : (.code yD_add prog_4_method_3_code 4 (some .int) : Cond) ∈ WA := List.mem_filter.mpr ⟨List.mem_of_getElem? (i := 326) (by decide +kernel), by decide +kernel⟩
theorem m_314 : (.methodLink "SettleLayersLaw" 76 yX_foretold : Cond) ∈ WA := List.mem_filter.mpr ⟨List.mem_of_getElem? (i := 327) (by decide +kernel), by decide +kernel⟩
theorem m_315 : (.instanceMethod yX_foretold : Cond) ∈ WA := List.mem_filter.mpr ⟨List.mem_of_getElem? (i := 328) (by decide +kernel), by decide +kernel⟩
theorem m_316 : (.selects R_X yX_foretold yX_foretold : Cond) ∈ WA := List.mem_filter.mpr ⟨List.mem_of_getElem? (i := 329) (by decide +kernel), by decide +kernel⟩
theorem m_317 : (.code yX_foretold prog_1_method_15_code 2 (some .long) : Cond) ∈ WA := List.mem_filter.mpr ⟨List.mem_of_getElem? (i := 330) (by decide +kernel), by decide +kernel⟩
theorem m_318 : (.methodLink R_X 150 yD_foretellByLastThree : Cond) ∈ WA := List.mem_filter.mpr ⟨List.mem_of_getElem? (i := 331) (by decide +kernel), by decide +kernel⟩
theorem m_319 : (.instanceMethod yD_foretellByLastThree : Cond) ∈ WA := List.mem_filter.mpr ⟨List.mem_of_getElem? (i := 332) (by decide +kernel), by decide +kernel⟩
theorem m_320 : (.selects R_D yD_foretellByLastThree yD_foretellByLastThree : Cond) ∈ WA := List.mem_filter.mpr ⟨List.mem_of_getElem? (i := 333) (by decide +kernel), by decide +kernel⟩
theorem m_321 : (.code yD_foretellByLastThree prog_4_method_4_code 7 (some .long) : Cond) ∈ WA := List.mem_filter.mpr ⟨List.mem_of_getElem? (i := 334) (by decide +kernel), by decide +kernel⟩
theorem m_322 : (.constantLong R_D 23 (-1) : Cond) ∈ WA := List.mem_filter.mpr ⟨List.mem_of_getElem? (i := 335) (by decide +kernel), by decide +kernel⟩
theorem m_323 : (.methodLink R_D 25 yD_tooGreat : Cond) ∈ WA := List.mem_filter.mpr ⟨List.mem_of_getElem? (i := 336) (by decide +kernel), by decide +kernel⟩
theorem m_324 : (.static yD_tooGreat : Cond) ∈ WA := List.mem_filter.mpr ⟨List.mem_of_getElem? (i := 337) (by decide +kernel), by decide +kernel⟩
theorem m_325 : (.code yD_tooGreat prog_4_method_7_code 2 (some .boolean) : Cond) ∈ WA := List.mem_filter.mpr ⟨List.mem_of_getElem? (i := 338) (by decide +kernel), by decide +kernel⟩
theorem m_326 : (.constantLong R_D 37 100000000 : Cond) ∈ WA := List.mem_filter.mpr ⟨List.mem_of_getElem? (i := 339) (by decide +kernel), by decide +kernel⟩
theorem m_327 : (.constantLong R_D 29 2 : Cond) ∈ WA := List.mem_filter.mpr ⟨List.mem_of_getElem? (i := 340) (by decide +kernel), by decide +kernel⟩
theorem m_328 : (.methodLink R_D 31 yD_quotient : Cond) ∈ WA := List.mem_filter.mpr ⟨List.mem_of_getElem? (i := 341) (by decide +kernel), by decide +kernel⟩
theorem m_329 : (.static yD_quotient : Cond) ∈ WA := List.mem_filter.mpr ⟨List.mem_of_getElem? (i := 342) (by decide +kernel), by decide +kernel⟩
theorem m_330 : (.code yD_quotient prog_4_method_8_code 4 (some .long) : Cond) ∈ WA := List.mem_filter.mpr ⟨List.mem_of_getElem? (i := 343) (by decide +kernel), by decide +kernel⟩
theorem m_331 : (.methodLink R_X 153 yD_foretellByLastTwo : Cond) ∈ WA := List.mem_filter.mpr ⟨List.mem_of_getElem? (i := 344) (by decide +kernel), by decide +kernel⟩
theorem m_332 : (.instanceMethod yD_foretellByLastTwo : Cond) ∈ WA := List.mem_filter.mpr ⟨List.mem_of_getElem? (i := 345) (by decide +kernel), by decide +kernel⟩
theorem m_333 : (.selects R_D yD_foretellByLastTwo yD_foretellByLastTwo : Cond) ∈ WA := List.mem_filter.mpr ⟨List.mem_of_getElem? (i := 346) (by decide +kernel), by decide +kernel⟩
theorem m_334 : (.code yD_foretellByLastTwo prog_4_method_5_code 9 (some .long) : Cond) ∈ WA := List.mem_filter.mpr ⟨List.mem_of_getElem? (i := 347) (by decide +kernel), by decide +kernel⟩
theorem m_335 : (.methodLink R_X 156 yD_foretellByFirstAndLast : Cond) ∈ WA := List.mem_filter.mpr ⟨List.mem_of_getElem? (i := 348) (by decide +kernel), by decide +kernel⟩
theorem m_336 : (.instanceMethod yD_foretellByFirstAndLast : Cond) ∈ WA := List.mem_filter.mpr ⟨List.mem_of_getElem? (i := 349) (by decide +kernel), by decide +kernel⟩
theorem m_337 : (.selects R_D yD_foretellByFirstAndLast yD_foretellByFirstAndLast : Cond) ∈ WA := List.mem_filter.mpr ⟨List.mem_of_getElem? (i := 350) (by decide +kernel), by decide +kernel⟩
theorem m_338 : (.code yD_foretellByFirstAndLast prog_4_method_6_code 7 (some .long) : Cond) ∈ WA := List.mem_filter.mpr ⟨List.mem_of_getElem? (i := 351) (by decide +kernel), by decide +kernel⟩
theorem m_339 : (.constantLong R_D 35 100 : Cond) ∈ WA := List.mem_filter.mpr ⟨List.mem_of_getElem? (i := 352) (by decide +kernel), by decide +kernel⟩
theorem m_340 : (.methodLink "SettleLayersLaw" 80 yX_off : Cond) ∈ WA := List.mem_filter.mpr ⟨List.mem_of_getElem? (i := 353) (by decide +kernel), by decide +kernel⟩
theorem m_341 : (.instanceMethod yX_off : Cond) ∈ WA := List.mem_filter.mpr ⟨List.mem_of_getElem? (i := 354) (by decide +kernel), by decide +kernel⟩
theorem m_342 : (.selects R_X yX_off yX_off : Cond) ∈ WA := List.mem_filter.mpr ⟨List.mem_of_getElem? (i := 355) (by decide +kernel), by decide +kernel⟩
theorem m_343 : (.code yX_off prog_1_method_16_code 6 (some .int) : Cond) ∈ WA := List.mem_filter.mpr ⟨List.mem_of_getElem? (i := 356) (by decide +kernel), by decide +kernel⟩
theorem m_344 : (.methodLink R_X 164 Lib.MathLoose.abs_long.x : Cond) ∈ WA := List.mem_filter.mpr ⟨List.mem_of_getElem? (i := 357) (by decide +kernel), by decide +kernel⟩
theorem m_345 : (.static Lib.MathLoose.abs_long.x : Cond) ∈ WA := List.mem_filter.mpr ⟨List.mem_of_getElem? (i := 358) (by decide +kernel), by decide +kernel⟩
theorem m_346 : (.code Lib.MathLoose.abs_long.x Lib.MathLoose.abs_long.code 2 (some .long) : Cond) ∈ WA := List.mem_filter.mpr ⟨List.mem_of_getElem? (i := 359) (by decide +kernel), by decide +kernel⟩
theorem m_347 : (.methodLink "SettleLayersLaw" 85 yX_count : Cond) ∈ WA := List.mem_filter.mpr ⟨List.mem_of_getElem? (i := 360) (by decide +kernel), by decide +kernel⟩
theorem m_348 : (.instanceMethod yX_count : Cond) ∈ WA := List.mem_filter.mpr ⟨List.mem_of_getElem? (i := 361) (by decide +kernel), by decide +kernel⟩
theorem m_349 : (.selects R_X yX_count yX_count : Cond) ∈ WA := List.mem_filter.mpr ⟨List.mem_of_getElem? (i := 362) (by decide +kernel), by decide +kernel⟩
theorem m_350 : (.code yX_count prog_1_method_17_code 2 (some .int) : Cond) ∈ WA := List.mem_filter.mpr ⟨List.mem_of_getElem? (i := 363) (by decide +kernel), by decide +kernel⟩
theorem m_351 : (.classLink "SettleLayersLaw" 10 R_M : Cond) ∈ WA := List.mem_filter.mpr ⟨List.mem_of_getElem? (i := 364) (by decide +kernel), by decide +kernel⟩
theorem m_352 : (.instantiable R_M 24 : Cond) ∈ WA := List.mem_filter.mpr ⟨List.mem_of_getElem? (i := 365) (by decide +kernel), by decide +kernel⟩
theorem m_353 : (.methodLink "SettleLayersLaw" 12 yM_init : Cond) ∈ WA := List.mem_filter.mpr ⟨List.mem_of_getElem? (i := 366) (by decide +kernel), by decide +kernel⟩
theorem m_354 : (.instanceMethod yM_init : Cond) ∈ WA := List.mem_filter.mpr ⟨List.mem_of_getElem? (i := 367) (by decide +kernel), by decide +kernel⟩
theorem m_355 : (.code yM_init prog_7_method_1_code 1 none : Cond) ∈ WA := List.mem_filter.mpr ⟨List.mem_of_getElem? (i := 368) (by decide +kernel), by decide +kernel⟩
theorem m_356 : (.methodLink R_M 1 objectInit : Cond) ∈ WA := List.mem_filter.mpr ⟨List.mem_of_getElem? (i := 369) (by decide +kernel), by decide +kernel⟩
theorem m_357 : (.fieldLink R_M 79 "SettleLayersModel" "layers" "I" : Cond) ∈ WA := List.mem_filter.mpr ⟨List.mem_of_getElem? (i := 370) (by decide +kernel), by decide +kernel⟩
theorem m_358 : (.fieldLink R_M 69 "SettleLayersModel" "cells" "I" : Cond) ∈ WA := List.mem_filter.mpr ⟨List.mem_of_getElem? (i := 371) (by decide +kernel), by decide +kernel⟩
theorem m_359 : (.fieldLink R_M 7 "SettleLayersModel" "layerOf" "[I" : Cond) ∈ WA := List.mem_filter.mpr ⟨List.mem_of_getElem? (i := 372) (by decide +kernel), by decide +kernel⟩
theorem m_360 : (.fieldLink R_M 13 "SettleLayersModel" "leaks" "[I" : Cond) ∈ WA := List.mem_filter.mpr ⟨List.mem_of_getElem? (i := 373) (by decide +kernel), by decide +kernel⟩
theorem m_361 : (.fieldLink R_M 16 "SettleLayersModel" "hards" "[I" : Cond) ∈ WA := List.mem_filter.mpr ⟨List.mem_of_getElem? (i := 374) (by decide +kernel), by decide +kernel⟩
theorem m_362 : (.fieldLink R_M 19 "SettleLayersModel" "softs" "[I" : Cond) ∈ WA := List.mem_filter.mpr ⟨List.mem_of_getElem? (i := 375) (by decide +kernel), by decide +kernel⟩
theorem m_363 : (.fieldLink R_M 22 "SettleLayersModel" "pressures" "[J" : Cond) ∈ WA := List.mem_filter.mpr ⟨List.mem_of_getElem? (i := 376) (by decide +kernel), by decide +kernel⟩
theorem m_364 : (.fieldLink R_M 26 "SettleLayersModel" "pasts" "[J" : Cond) ∈ WA := List.mem_filter.mpr ⟨List.mem_of_getElem? (i := 377) (by decide +kernel), by decide +kernel⟩
theorem m_365 : (.fieldLink R_M 29 "SettleLayersModel" "sinks" "[J" : Cond) ∈ WA := List.mem_filter.mpr ⟨List.mem_of_getElem? (i := 378) (by decide +kernel), by decide +kernel⟩
theorem m_366 : (.fieldLink R_M 98 "SettleLayersModel" "come" "J" : Cond) ∈ WA := List.mem_filter.mpr ⟨List.mem_of_getElem? (i := 379) (by decide +kernel), by decide +kernel⟩
theorem m_367 : (.fieldLink R_M 94 "SettleLayersModel" "gone" "J" : Cond) ∈ WA := List.mem_filter.mpr ⟨List.mem_of_getElem? (i := 380) (by decide +kernel), by decide +kernel⟩
theorem m_368 : (.fieldLink R_M 73 "SettleLayersModel" "day" "I" : Cond) ∈ WA := List.mem_filter.mpr ⟨List.mem_of_getElem? (i := 381) (by decide +kernel), by decide +kernel⟩
theorem m_369 : (.fieldLink R_M 32 "SettleLayersModel" "above" "Z" : Cond) ∈ WA := List.mem_filter.mpr ⟨List.mem_of_getElem? (i := 382) (by decide +kernel), by decide +kernel⟩
theorem m_370 : (.fieldLink R_M 84 "SettleLayersModel" "below" "Z" : Cond) ∈ WA := List.mem_filter.mpr ⟨List.mem_of_getElem? (i := 383) (by decide +kernel), by decide +kernel⟩
theorem m_371 : (.fieldLink R_M 87 "SettleLayersModel" "drain" "I" : Cond) ∈ WA := List.mem_filter.mpr ⟨List.mem_of_getElem? (i := 384) (by decide +kernel), by decide +kernel⟩
theorem m_372 : (.fieldLink R_M 76 "SettleLayersModel" "loads" "I" : Cond) ∈ WA := List.mem_filter.mpr ⟨List.mem_of_getElem? (i := 385) (by decide +kernel), by decide +kernel⟩
theorem m_373 : (.fieldLink R_M 36 "SettleLayersModel" "loadDays" "[I" : Cond) ∈ WA := List.mem_filter.mpr ⟨List.mem_of_getElem? (i := 386) (by decide +kernel), by decide +kernel⟩
theorem m_374 : (.fieldLink R_M 39 "SettleLayersModel" "loadSizes" "[I" : Cond) ∈ WA := List.mem_filter.mpr ⟨List.mem_of_getElem? (i := 387) (by decide +kernel), by decide +kernel⟩
theorem m_375 : (.fieldLink R_M 140 "SettleLayersModel" "readings" "I" : Cond) ∈ WA := List.mem_filter.mpr ⟨List.mem_of_getElem? (i := 388) (by decide +kernel), by decide +kernel⟩
theorem m_376 : (.fieldLink R_M 42 "SettleLayersModel" "readDays" "[I" : Cond) ∈ WA := List.mem_filter.mpr ⟨List.mem_of_getElem? (i := 389) (by decide +kernel), by decide +kernel⟩
theorem m_377 : (.fieldLink R_M 45 "SettleLayersModel" "readValues" "[J" : Cond) ∈ WA := List.mem_filter.mpr ⟨List.mem_of_getElem? (i := 390) (by decide +kernel), by decide +kernel⟩
theorem m_378 : (.fieldLink R_M 48 "SettleLayersModel" "history" "[J" : Cond) ∈ WA := List.mem_filter.mpr ⟨List.mem_of_getElem? (i := 391) (by decide +kernel), by decide +kernel⟩
theorem m_379 : (.fieldLink R_M 51 "SettleLayersModel" "flows" "[J" : Cond) ∈ WA := List.mem_filter.mpr ⟨List.mem_of_getElem? (i := 392) (by decide +kernel), by decide +kernel⟩
theorem m_380 : (.fieldLink R_M 54 "SettleLayersModel" "kept" "[J" : Cond) ∈ WA := List.mem_filter.mpr ⟨List.mem_of_getElem? (i := 393) (by decide +kernel), by decide +kernel⟩
theorem m_430 : (.methodLink "SettleLayersLaw" 17 yM_layer : Cond) ∈ WA := List.mem_filter.mpr ⟨List.mem_of_getElem? (i := 443) (by decide +kernel), by decide +kernel⟩
theorem m_431 : (.instanceMethod yM_layer : Cond) ∈ WA := List.mem_filter.mpr ⟨List.mem_of_getElem? (i := 444) (by decide +kernel), by decide +kernel⟩
theorem m_432 : (.selects R_M yM_layer yM_layer : Cond) ∈ WA := List.mem_filter.mpr ⟨List.mem_of_getElem? (i := 445) (by decide +kernel), by decide +kernel⟩
theorem m_433 : (.code yM_layer prog_7_method_4_code 8 (some .int) : Cond) ∈ WA := List.mem_filter.mpr ⟨List.mem_of_getElem? (i := 446) (by decide +kernel), by decide +kernel⟩
theorem m_434 : (.constantLong R_M 57 10 : Cond) ∈ WA := List.mem_filter.mpr ⟨List.mem_of_getElem? (i := 447) (by decide +kernel), by decide +kernel⟩
theorem m_435 : (.methodLink R_M 59 yM_in : Cond) ∈ WA := List.mem_filter.mpr ⟨List.mem_of_getElem? (i := 448) (by decide +kernel), by decide +kernel⟩
theorem m_436 : (.static yM_in : Cond) ∈ WA := List.mem_filter.mpr ⟨List.mem_of_getElem? (i := 449) (by decide +kernel), by decide +kernel⟩
theorem m_437 : (.code yM_in prog_7_method_3_code 6 (some .boolean) : Cond) ∈ WA := List.mem_filter.mpr ⟨List.mem_of_getElem? (i := 450) (by decide +kernel), by decide +kernel⟩
theorem m_438 : (.constantLong R_M 63 300 : Cond) ∈ WA := List.mem_filter.mpr ⟨List.mem_of_getElem? (i := 451) (by decide +kernel), by decide +kernel⟩
theorem m_439 : (.constantLong R_M 65 1000 : Cond) ∈ WA := List.mem_filter.mpr ⟨List.mem_of_getElem? (i := 452) (by decide +kernel), by decide +kernel⟩
theorem m_440 : (.constantLong R_M 67 1000000 : Cond) ∈ WA := List.mem_filter.mpr ⟨List.mem_of_getElem? (i := 453) (by decide +kernel), by decide +kernel⟩
theorem m_441 : (.methodLink "SettleLayersLaw" 22 yM_drains : Cond) ∈ WA := List.mem_filter.mpr ⟨List.mem_of_getElem? (i := 454) (by decide +kernel), by decide +kernel⟩
theorem m_442 : (.instanceMethod yM_drains : Cond) ∈ WA := List.mem_filter.mpr ⟨List.mem_of_getElem? (i := 455) (by decide +kernel), by decide +kernel⟩
theorem m_443 : (.selects R_M yM_drains yM_drains : Cond) ∈ WA := List.mem_filter.mpr ⟨List.mem_of_getElem? (i := 456) (by decide +kernel), by decide +kernel⟩
theorem m_444 : (.code yM_drains prog_7_method_5_code 4 (some .boolean) : Cond) ∈ WA := List.mem_filter.mpr ⟨List.mem_of_getElem? (i := 457) (by decide +kernel), by decide +kernel⟩
theorem m_445 : (.constantLong R_M 82 200 : Cond) ∈ WA := List.mem_filter.mpr ⟨List.mem_of_getElem? (i := 458) (by decide +kernel), by decide +kernel⟩
theorem m_446 : (.methodLink "SettleLayersLaw" 27 yM_load : Cond) ∈ WA := List.mem_filter.mpr ⟨List.mem_of_getElem? (i := 459) (by decide +kernel), by decide +kernel⟩
theorem m_447 : (.instanceMethod yM_load : Cond) ∈ WA := List.mem_filter.mpr ⟨List.mem_of_getElem? (i := 460) (by decide +kernel), by decide +kernel⟩
theorem m_448 : (.selects R_M yM_load yM_load : Cond) ∈ WA := List.mem_filter.mpr ⟨List.mem_of_getElem? (i := 461) (by decide +kernel), by decide +kernel⟩
theorem m_449 : (.code yM_load prog_7_method_6_code 3 (some .int) : Cond) ∈ WA := List.mem_filter.mpr ⟨List.mem_of_getElem? (i := 462) (by decide +kernel), by decide +kernel⟩
theorem m_450 : (.constantLong R_M 90 399 : Cond) ∈ WA := List.mem_filter.mpr ⟨List.mem_of_getElem? (i := 463) (by decide +kernel), by decide +kernel⟩
theorem m_451 : (.constantLong R_M 92 200000 : Cond) ∈ WA := List.mem_filter.mpr ⟨List.mem_of_getElem? (i := 464) (by decide +kernel), by decide +kernel⟩
theorem m_452 : (.methodLink "SettleLayersLaw" 32 yM_run : Cond) ∈ WA := List.mem_filter.mpr ⟨List.mem_of_getElem? (i := 465) (by decide +kernel), by decide +kernel⟩
theorem m_453 : (.instanceMethod yM_run : Cond) ∈ WA := List.mem_filter.mpr ⟨List.mem_of_getElem? (i := 466) (by decide +kernel), by decide +kernel⟩
theorem m_454 : (.selects R_M yM_run yM_run : Cond) ∈ WA := List.mem_filter.mpr ⟨List.mem_of_getElem? (i := 467) (by decide +kernel), by decide +kernel⟩
theorem m_455 : (.code yM_run prog_7_method_11_code 3 (some .int) : Cond) ∈ WA := List.mem_filter.mpr ⟨List.mem_of_getElem? (i := 468) (by decide +kernel), by decide +kernel⟩
theorem m_456 : (.constantLong R_M 108 60 : Cond) ∈ WA := List.mem_filter.mpr ⟨List.mem_of_getElem? (i := 469) (by decide +kernel), by decide +kernel⟩
theorem m_457 : (.methodLink R_M 110 yM_goDay : Cond) ∈ WA := List.mem_filter.mpr ⟨List.mem_of_getElem? (i := 470) (by decide +kernel), by decide +kernel⟩
theorem m_459 : (.instanceMethod yM_goDay : Cond) ∈ WA := List.mem_filter.mpr ⟨List.mem_of_getElem? (i := 472) (by decide +kernel), by decide +kernel⟩
theorem m_460 : (.code yM_goDay prog_7_method_9_code 7 none : Cond) ∈ WA := List.mem_filter.mpr ⟨List.mem_of_getElem? (i := 473) (by decide +kernel), by decide +kernel⟩
theorem m_461 : (.methodLink R_M 105 yM_step : Cond) ∈ WA := List.mem_filter.mpr ⟨List.mem_of_getElem? (i := 474) (by decide +kernel), by decide +kernel⟩
theorem m_463 : (.instanceMethod yM_step : Cond) ∈ WA := List.mem_filter.mpr ⟨List.mem_of_getElem? (i := 476) (by decide +kernel), by decide +kernel⟩
theorem m_464 : (.code yM_step prog_7_method_8_code 10 none : Cond) ∈ WA := List.mem_filter.mpr ⟨List.mem_of_getElem? (i := 477) (by decide +kernel), by decide +kernel⟩
theorem m_465 : (.methodLink R_M 101 yM_sinking : Cond) ∈ WA := List.mem_filter.mpr ⟨List.mem_of_getElem? (i := 478) (by decide +kernel), by decide +kernel⟩
theorem m_467 : (.instanceMethod yM_sinking : Cond) ∈ WA := List.mem_filter.mpr ⟨List.mem_of_getElem? (i := 480) (by decide +kernel), by decide +kernel⟩
theorem m_468 : (.code yM_sinking prog_7_method_7_code 8 (some .long) : Cond) ∈ WA := List.mem_filter.mpr ⟨List.mem_of_getElem? (i := 481) (by decide +kernel), by decide +kernel⟩
theorem m_469 : (.methodLink R_M 114 yM_units : Cond) ∈ WA := List.mem_filter.mpr ⟨List.mem_of_getElem? (i := 482) (by decide +kernel), by decide +kernel⟩
theorem m_471 : (.instanceMethod yM_units : Cond) ∈ WA := List.mem_filter.mpr ⟨List.mem_of_getElem? (i := 484) (by decide +kernel), by decide +kernel⟩
theorem m_472 : (.code yM_units prog_7_method_10_code 5 (some .long) : Cond) ∈ WA := List.mem_filter.mpr ⟨List.mem_of_getElem? (i := 485) (by decide +kernel), by decide +kernel⟩
theorem m_473 : (.methodLink "SettleLayersLaw" 37 yM_sunk : Cond) ∈ WA := List.mem_filter.mpr ⟨List.mem_of_getElem? (i := 486) (by decide +kernel), by decide +kernel⟩
theorem m_474 : (.instanceMethod yM_sunk : Cond) ∈ WA := List.mem_filter.mpr ⟨List.mem_of_getElem? (i := 487) (by decide +kernel), by decide +kernel⟩
theorem m_475 : (.selects R_M yM_sunk yM_sunk : Cond) ∈ WA := List.mem_filter.mpr ⟨List.mem_of_getElem? (i := 488) (by decide +kernel), by decide +kernel⟩
theorem m_476 : (.code yM_sunk prog_7_method_12_code 2 (some .long) : Cond) ∈ WA := List.mem_filter.mpr ⟨List.mem_of_getElem? (i := 489) (by decide +kernel), by decide +kernel⟩
theorem m_477 : (.constantLong R_M 118 (-1) : Cond) ∈ WA := List.mem_filter.mpr ⟨List.mem_of_getElem? (i := 490) (by decide +kernel), by decide +kernel⟩
theorem m_478 : (.methodLink "SettleLayersLaw" 41 yM_told : Cond) ∈ WA := List.mem_filter.mpr ⟨List.mem_of_getElem? (i := 491) (by decide +kernel), by decide +kernel⟩
theorem m_479 : (.instanceMethod yM_told : Cond) ∈ WA := List.mem_filter.mpr ⟨List.mem_of_getElem? (i := 492) (by decide +kernel), by decide +kernel⟩
theorem m_480 : (.selects R_M yM_told yM_told : Cond) ∈ WA := List.mem_filter.mpr ⟨List.mem_of_getElem? (i := 493) (by decide +kernel), by decide +kernel⟩
theorem m_481 : (.code yM_told prog_7_method_13_code 3 (some .int) : Cond) ∈ WA := List.mem_filter.mpr ⟨List.mem_of_getElem? (i := 494) (by decide +kernel), by decide +kernel⟩
theorem m_482 : (.constantLong R_M 120 2 : Cond) ∈ WA := List.mem_filter.mpr ⟨List.mem_of_getElem? (i := 495) (by decide +kernel), by decide +kernel⟩
theorem m_483 : (.methodLink "SettleLayersLaw" 46 yM_out : Cond) ∈ WA := List.mem_filter.mpr ⟨List.mem_of_getElem? (i := 496) (by decide +kernel), by decide +kernel⟩
theorem m_484 : (.instanceMethod yM_out : Cond) ∈ WA := List.mem_filter.mpr ⟨List.mem_of_getElem? (i := 497) (by decide +kernel), by decide +kernel⟩
theorem m_485 : (.selects R_M yM_out yM_out : Cond) ∈ WA := List.mem_filter.mpr ⟨List.mem_of_getElem? (i := 498) (by decide +kernel), by decide +kernel⟩
theorem m_486 : (.code yM_out prog_7_method_14_code 1 (some .long) : Cond) ∈ WA := List.mem_filter.mpr ⟨List.mem_of_getElem? (i := 499) (by decide +kernel), by decide +kernel⟩
theorem m_487 : (.methodLink "SettleLayersLaw" 51 yM_balance : Cond) ∈ WA := List.mem_filter.mpr ⟨List.mem_of_getElem? (i := 500) (by decide +kernel), by decide +kernel⟩
theorem m_488 : (.instanceMethod yM_balance : Cond) ∈ WA := List.mem_filter.mpr ⟨List.mem_of_getElem? (i := 501) (by decide +kernel), by decide +kernel⟩
theorem m_489 : (.selects R_M yM_balance yM_balance : Cond) ∈ WA := List.mem_filter.mpr ⟨List.mem_of_getElem? (i := 502) (by decide +kernel), by decide +kernel⟩
theorem m_490 : (.code yM_balance prog_7_method_15_code 4 (some .boolean) : Cond) ∈ WA := List.mem_filter.mpr ⟨List.mem_of_getElem? (i := 503) (by decide +kernel), by decide +kernel⟩
theorem m_491 : (.methodLink "SettleLayersLaw" 55 yM_end : Cond) ∈ WA := List.mem_filter.mpr ⟨List.mem_of_getElem? (i := 504) (by decide +kernel), by decide +kernel⟩
theorem m_492 : (.instanceMethod yM_end : Cond) ∈ WA := List.mem_filter.mpr ⟨List.mem_of_getElem? (i := 505) (by decide +kernel), by decide +kernel⟩
theorem m_493 : (.selects R_M yM_end yM_end : Cond) ∈ WA := List.mem_filter.mpr ⟨List.mem_of_getElem? (i := 506) (by decide +kernel), by decide +kernel⟩
theorem m_494 : (.code yM_end prog_7_method_17_code 1 (some .long) : Cond) ∈ WA := List.mem_filter.mpr ⟨List.mem_of_getElem? (i := 507) (by decide +kernel), by decide +kernel⟩
theorem m_495 : (.methodLink R_M 122 yM_endUnits : Cond) ∈ WA := List.mem_filter.mpr ⟨List.mem_of_getElem? (i := 508) (by decide +kernel), by decide +kernel⟩
theorem m_497 : (.instanceMethod yM_endUnits : Cond) ∈ WA := List.mem_filter.mpr ⟨List.mem_of_getElem? (i := 510) (by decide +kernel), by decide +kernel⟩
theorem m_498 : (.code yM_endUnits prog_7_method_16_code 6 (some .long) : Cond) ∈ WA := List.mem_filter.mpr ⟨List.mem_of_getElem? (i := 511) (by decide +kernel), by decide +kernel⟩
theorem m_499 : (.methodLink "SettleLayersLaw" 60 yM_share : Cond) ∈ WA := List.mem_filter.mpr ⟨List.mem_of_getElem? (i := 512) (by decide +kernel), by decide +kernel⟩
theorem m_500 : (.instanceMethod yM_share : Cond) ∈ WA := List.mem_filter.mpr ⟨List.mem_of_getElem? (i := 513) (by decide +kernel), by decide +kernel⟩
theorem m_501 : (.selects R_M yM_share yM_share : Cond) ∈ WA := List.mem_filter.mpr ⟨List.mem_of_getElem? (i := 514) (by decide +kernel), by decide +kernel⟩
theorem m_502 : (.code yM_share prog_7_method_19_code 1 (some .int) : Cond) ∈ WA := List.mem_filter.mpr ⟨List.mem_of_getElem? (i := 515) (by decide +kernel), by decide +kernel⟩
theorem m_503 : (.methodLink R_M 126 yM_shareNow : Cond) ∈ WA := List.mem_filter.mpr ⟨List.mem_of_getElem? (i := 516) (by decide +kernel), by decide +kernel⟩
theorem m_505 : (.instanceMethod yM_shareNow : Cond) ∈ WA := List.mem_filter.mpr ⟨List.mem_of_getElem? (i := 518) (by decide +kernel), by decide +kernel⟩
theorem m_506 : (.code yM_shareNow prog_7_method_18_code 3 (some .int) : Cond) ∈ WA := List.mem_filter.mpr ⟨List.mem_of_getElem? (i := 519) (by decide +kernel), by decide +kernel⟩
theorem m_507 : (.methodLink "SettleLayersLaw" 64 yM_until : Cond) ∈ WA := List.mem_filter.mpr ⟨List.mem_of_getElem? (i := 520) (by decide +kernel), by decide +kernel⟩
theorem m_508 : (.instanceMethod yM_until : Cond) ∈ WA := List.mem_filter.mpr ⟨List.mem_of_getElem? (i := 521) (by decide +kernel), by decide +kernel⟩
theorem m_509 : (.selects R_M yM_until yM_until : Cond) ∈ WA := List.mem_filter.mpr ⟨List.mem_of_getElem? (i := 522) (by decide +kernel), by decide +kernel⟩
theorem m_510 : (.code yM_until prog_7_method_22_code 3 (some .int) : Cond) ∈ WA := List.mem_filter.mpr ⟨List.mem_of_getElem? (i := 523) (by decide +kernel), by decide +kernel⟩
theorem m_511 : (.methodLink R_M 130 yM_keep : Cond) ∈ WA := List.mem_filter.mpr ⟨List.mem_of_getElem? (i := 524) (by decide +kernel), by decide +kernel⟩
theorem m_513 : (.instanceMethod yM_keep : Cond) ∈ WA := List.mem_filter.mpr ⟨List.mem_of_getElem? (i := 526) (by decide +kernel), by decide +kernel⟩
theorem m_514 : (.code yM_keep prog_7_method_20_code 2 none : Cond) ∈ WA := List.mem_filter.mpr ⟨List.mem_of_getElem? (i := 527) (by decide +kernel), by decide +kernel⟩
theorem m_515 : (.methodLink R_M 133 yM_putBack : Cond) ∈ WA := List.mem_filter.mpr ⟨List.mem_of_getElem? (i := 528) (by decide +kernel), by decide +kernel⟩
theorem m_517 : (.instanceMethod yM_putBack : Cond) ∈ WA := List.mem_filter.mpr ⟨List.mem_of_getElem? (i := 530) (by decide +kernel), by decide +kernel⟩
theorem m_518 : (.code yM_putBack prog_7_method_21_code 2 none : Cond) ∈ WA := List.mem_filter.mpr ⟨List.mem_of_getElem? (i := 531) (by decide +kernel), by decide +kernel⟩
theorem m_519 : (.methodLink "SettleLayersLaw" 68 yM_surcharge : Cond) ∈ WA := List.mem_filter.mpr ⟨List.mem_of_getElem? (i := 532) (by decide +kernel), by decide +kernel⟩
theorem m_520 : (.instanceMethod yM_surcharge : Cond) ∈ WA := List.mem_filter.mpr ⟨List.mem_of_getElem? (i := 533) (by decide +kernel), by decide +kernel⟩
theorem m_521 : (.selects R_M yM_surcharge yM_surcharge : Cond) ∈ WA := List.mem_filter.mpr ⟨List.mem_of_getElem? (i := 534) (by decide +kernel), by decide +kernel⟩
theorem m_522 : (.code yM_surcharge prog_7_method_23_code 7 (some .int) : Cond) ∈ WA := List.mem_filter.mpr ⟨List.mem_of_getElem? (i := 535) (by decide +kernel), by decide +kernel⟩
theorem m_523 : (.constantLong R_M 136 100000 : Cond) ∈ WA := List.mem_filter.mpr ⟨List.mem_of_getElem? (i := 536) (by decide +kernel), by decide +kernel⟩
theorem m_524 : (.constantLong R_M 138 100 : Cond) ∈ WA := List.mem_filter.mpr ⟨List.mem_of_getElem? (i := 537) (by decide +kernel), by decide +kernel⟩
theorem m_525 : (.methodLink "SettleLayersLaw" 75 yM_read : Cond) ∈ WA := List.mem_filter.mpr ⟨List.mem_of_getElem? (i := 538) (by decide +kernel), by decide +kernel⟩
theorem m_526 : (.instanceMethod yM_read : Cond) ∈ WA := List.mem_filter.mpr ⟨List.mem_of_getElem? (i := 539) (by decide +kernel), by decide +kernel⟩
theorem m_527 : (.selects R_M yM_read yM_read : Cond) ∈ WA := List.mem_filter.mpr ⟨List.mem_of_getElem? (i := 540) (by decide +kernel), by decide +kernel⟩
theorem m_528 : (.code yM_read prog_7_method_24_code 5 (some .int) : Cond) ∈ WA := List.mem_filter.mpr ⟨List.mem_of_getElem? (i := 541) (by decide +kernel), by decide +kernel⟩
theorem m_529 : (.constantLong R_M 143 400 : Cond) ∈ WA := List.mem_filter.mpr ⟨List.mem_of_getElem? (i := 542) (by decide +kernel), by decide +kernel⟩
theorem m_530 : (.constantLong R_M 145 1000000000000 : Cond) ∈ WA := List.mem_filter.mpr ⟨List.mem_of_getElem? (i := 543) (by decide +kernel), by decide +kernel⟩
theorem m_531 : (.methodLink "SettleLayersLaw" 79 yM_foretold : Cond) ∈ WA := List.mem_filter.mpr ⟨List.mem_of_getElem? (i := 544) (by decide +kernel), by decide +kernel⟩
theorem m_532 : (.instanceMethod yM_foretold : Cond) ∈ WA := List.mem_filter.mpr ⟨List.mem_of_getElem? (i := 545) (by decide +kernel), by decide +kernel⟩
theorem m_533 : (.selects R_M yM_foretold yM_foretold : Cond) ∈ WA := List.mem_filter.mpr ⟨List.mem_of_getElem? (i := 546) (by decide +kernel), by decide +kernel⟩
theorem m_534 : (.code yM_foretold prog_7_method_25_code 15 (some .long) : Cond) ∈ WA := List.mem_filter.mpr ⟨List.mem_of_getElem? (i := 547) (by decide +kernel), by decide +kernel⟩
theorem m_535 : (.constantLong R_M 147 100000000 : Cond) ∈ WA := List.mem_filter.mpr ⟨List.mem_of_getElem? (i := 548) (by decide +kernel), by decide +kernel⟩
theorem m_536 : (.methodLink "SettleLayersLaw" 84 yM_off : Cond) ∈ WA := List.mem_filter.mpr ⟨List.mem_of_getElem? (i := 549) (by decide +kernel), by decide +kernel⟩
theorem m_537 : (.instanceMethod yM_off : Cond) ∈ WA := List.mem_filter.mpr ⟨List.mem_of_getElem? (i := 550) (by decide +kernel), by decide +kernel⟩
theorem m_538 : (.selects R_M yM_off yM_off : Cond) ∈ WA := List.mem_filter.mpr ⟨List.mem_of_getElem? (i := 551) (by decide +kernel), by decide +kernel⟩
theorem m_539 : (.code yM_off prog_7_method_26_code 7 (some .int) : Cond) ∈ WA := List.mem_filter.mpr ⟨List.mem_of_getElem? (i := 552) (by decide +kernel), by decide +kernel⟩
theorem m_540 : (.methodLink "SettleLayersLaw" 88 yM_count : Cond) ∈ WA := List.mem_filter.mpr ⟨List.mem_of_getElem? (i := 553) (by decide +kernel), by decide +kernel⟩
theorem m_541 : (.instanceMethod yM_count : Cond) ∈ WA := List.mem_filter.mpr ⟨List.mem_of_getElem? (i := 554) (by decide +kernel), by decide +kernel⟩
theorem m_542 : (.selects R_M yM_count yM_count : Cond) ∈ WA := List.mem_filter.mpr ⟨List.mem_of_getElem? (i := 555) (by decide +kernel), by decide +kernel⟩
theorem m_543 : (.code yM_count prog_7_method_27_code 2 (some .int) : Cond) ∈ WA := List.mem_filter.mpr ⟨List.mem_of_getElem? (i := 556) (by decide +kernel), by decide +kernel⟩
theorem m_544 : (.constantLong "SettleLayersLaw" 69 4294967295 : Cond) ∈ WA := List.mem_filter.mpr ⟨List.mem_of_getElem? (i := 557) (by decide +kernel), by decide +kernel⟩
theorem ms_0 : (.selects "SettleLayers$Ground" yG_moveWater yG_moveWater : Cond) ∈ WA := List.mem_filter.mpr ⟨List.mem_of_getElem? (i := 0) (by decide +kernel), by decide +kernel⟩
theorem ms_1 : (.selects "SettleLayers$Ground" yG_leavingAbove yG_leavingAbove : Cond) ∈ WA := List.mem_filter.mpr ⟨List.mem_of_getElem? (i := 1) (by decide +kernel), by decide +kernel⟩
theorem ms_2 : (.selects "SettleLayers$Ground" yG_goingBelow yG_goingBelow : Cond) ∈ WA := List.mem_filter.mpr ⟨List.mem_of_getElem? (i := 2) (by decide +kernel), by decide +kernel⟩
theorem ms_3 : (.selects "SettleLayers$Ground" yG_raisePasts yG_raisePasts : Cond) ∈ WA := List.mem_filter.mpr ⟨List.mem_of_getElem? (i := 3) (by decide +kernel), by decide +kernel⟩
theorem ms_4 : (.selects "SettleLayers" yX_unitsSunkWith yX_unitsSunkWith : Cond) ∈ WA := List.mem_filter.mpr ⟨List.mem_of_getElem? (i := 4) (by decide +kernel), by decide +kernel⟩
theorem ms_5 : (.selects "SettleLayersModel" yM_goDay yM_goDay : Cond) ∈ WA := List.mem_filter.mpr ⟨List.mem_of_getElem? (i := 5) (by decide +kernel), by decide +kernel⟩
theorem ms_6 : (.selects "SettleLayersModel" yM_step yM_step : Cond) ∈ WA := List.mem_filter.mpr ⟨List.mem_of_getElem? (i := 6) (by decide +kernel), by decide +kernel⟩
theorem ms_7 : (.selects "SettleLayersModel" yM_sinking yM_sinking : Cond) ∈ WA := List.mem_filter.mpr ⟨List.mem_of_getElem? (i := 7) (by decide +kernel), by decide +kernel⟩
theorem ms_8 : (.selects "SettleLayersModel" yM_units yM_units : Cond) ∈ WA := List.mem_filter.mpr ⟨List.mem_of_getElem? (i := 8) (by decide +kernel), by decide +kernel⟩
theorem ms_9 : (.selects "SettleLayersModel" yM_endUnits yM_endUnits : Cond) ∈ WA := List.mem_filter.mpr ⟨List.mem_of_getElem? (i := 9) (by decide +kernel), by decide +kernel⟩
theorem ms_10 : (.selects "SettleLayersModel" yM_shareNow yM_shareNow : Cond) ∈ WA := List.mem_filter.mpr ⟨List.mem_of_getElem? (i := 10) (by decide +kernel), by decide +kernel⟩
theorem ms_11 : (.selects "SettleLayersModel" yM_keep yM_keep : Cond) ∈ WA := List.mem_filter.mpr ⟨List.mem_of_getElem? (i := 11) (by decide +kernel), by decide +kernel⟩
theorem ms_12 : (.selects "SettleLayersModel" yM_putBack yM_putBack : Cond) ∈ WA := List.mem_filter.mpr ⟨List.mem_of_getElem? (i := 12) (by decide +kernel), by decide +kernel⟩
