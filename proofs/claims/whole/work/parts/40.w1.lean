theorem in_tp {w : Cond} (i : Nat) (h : (k2_sels lw_privs)[i]? = some w) : w ∈ lw_tbl := List.mem_append_left _ (List.mem_of_getElem? h)
theorem in_t1 {w : Cond} (i : Nat) (h : tables_1_1[i]? = some w) : w ∈ lw_tbl := List.mem_append_right _ (List.mem_append_left _ (List.mem_of_getElem? h))
theorem in_t2 {w : Cond} (i : Nat) (h : tables_1_2[i]? = some w) : w ∈ lw_tbl := List.mem_append_right _ (List.mem_append_right _ (List.mem_append_left _ (List.mem_of_getElem? h)))
theorem in_t3 {w : Cond} (i : Nat) (h : tables_1_3[i]? = some w) : w ∈ lw_tbl := List.mem_append_right _ (List.mem_append_right _ (List.mem_append_right _ (List.mem_append_left _ (List.mem_of_getElem? h))))
theorem in_t4 {w : Cond} (i : Nat) (h : tables_1_4[i]? = some w) : w ∈ lw_tbl := List.mem_append_right _ (List.mem_append_right _ (List.mem_append_right _ (List.mem_append_right _ (List.mem_append_left _ (List.mem_of_getElem? h)))))
theorem in_t5 {w : Cond} (i : Nat) (h : tables_1_5[i]? = some w) : w ∈ lw_tbl := List.mem_append_right _ (List.mem_append_right _ (List.mem_append_right _ (List.mem_append_right _ (List.mem_append_right _ (List.mem_of_getElem? h)))))
set_option maxRecDepth 100000 in
theorem wd_0 : Cond.code yX8_init cX8_init 1 none ∈ lw_tbl := in_t1 19 rfl
set_option maxRecDepth 100000 in
theorem wd_1 : Cond.classLink RX8 44 RX4 ∈ lw_tbl := in_t1 104 rfl
set_option maxRecDepth 100000 in
theorem wd_2 : Cond.fieldLink RX8 40 "LightestRules" "weighings" "LLightestRules$Weighings;" ∈ lw_tbl := in_t1 171 rfl
set_option maxRecDepth 100000 in
theorem wd_3 : Cond.initialized RX6 ∈ lw_tbl := in_t1 6 rfl
set_option maxRecDepth 100000 in
theorem wd_4 : Cond.instantiable RX6 4 ∈ lw_tbl := in_t1 86 rfl
set_option maxRecDepth 100000 in
theorem wd_5 : Cond.classLink RX8 37 RX6 ∈ lw_tbl := in_t1 85 rfl
set_option maxRecDepth 100000 in
theorem wd_6 : Cond.fieldLink RX8 33 "LightestRules" "slots" "LLightestRules$Slots;" ∈ lw_tbl := in_t1 170 rfl
set_option maxRecDepth 100000 in
theorem wd_7 : Cond.initialized RX5 ∈ lw_tbl := in_t1 5 rfl
set_option maxRecDepth 100000 in
theorem wd_8 : Cond.instantiable RX5 2 ∈ lw_tbl := in_t1 73 rfl
set_option maxRecDepth 100000 in
theorem wd_9 : Cond.classLink RX8 30 RX5 ∈ lw_tbl := in_t1 72 rfl
set_option maxRecDepth 100000 in
theorem wd_10 : Cond.fieldLink RX8 26 "LightestRules" "acts" "LLightestRules$ActRow;" ∈ lw_tbl := in_t1 169 rfl
set_option maxRecDepth 100000 in
theorem wd_11 : Cond.initialized RX0 ∈ lw_tbl := in_t1 4 rfl
set_option maxRecDepth 100000 in
theorem wd_12 : Cond.instantiable RX0 3 ∈ lw_tbl := in_t1 57 rfl
set_option maxRecDepth 100000 in
theorem wd_13 : Cond.classLink RX8 23 RX0 ∈ lw_tbl := in_t1 56 rfl
set_option maxRecDepth 100000 in
theorem wd_14 : Cond.fieldLink RX8 19 "LightestRules" "folk" "LLightestRules$People;" ∈ lw_tbl := in_t1 168 rfl
set_option maxRecDepth 100000 in
theorem wd_15 : Cond.initialized RX2 ∈ lw_tbl := in_t1 3 rfl
set_option maxRecDepth 100000 in
theorem wd_16 : Cond.instantiable RX2 4 ∈ lw_tbl := in_t1 38 rfl
set_option maxRecDepth 100000 in
theorem wd_17 : Cond.classLink RX8 16 RX2 ∈ lw_tbl := in_t1 37 rfl
set_option maxRecDepth 100000 in
theorem wd_18 : Cond.fieldLink RX8 10 "LightestRules" "text" "LLightestRules$LandText;" ∈ lw_tbl := in_t1 167 rfl
set_option maxRecDepth 100000 in
theorem wd_19 : Cond.initialized RX1 ∈ lw_tbl := in_t1 2 rfl
set_option maxRecDepth 100000 in
theorem wd_20 : Cond.instantiable RX1 2 ∈ lw_tbl := in_t1 24 rfl
set_option maxRecDepth 100000 in
theorem wd_21 : Cond.classLink RX8 7 RX1 ∈ lw_tbl := in_t1 23 rfl
set_option maxRecDepth 100000 in
theorem wd_22 : Cond.code objectInit ⟨#[0xb1]⟩ 1 none ∈ lw_tbl := in_t1 22 rfl
set_option maxRecDepth 100000 in
theorem wd_23 : Cond.instanceMethod objectInit ∈ lw_tbl := in_t1 21 rfl
set_option maxRecDepth 100000 in
theorem wd_24 : Cond.methodLink RX8 1 objectInit ∈ lw_tbl := in_t1 20 rfl
set_option maxRecDepth 100000 in
theorem wd_25 : Cond.fieldLink RX2 11 "LightestRules$People" "cells" "[I" ∈ lw_tbl := in_t1 43 rfl
set_option maxRecDepth 100000 in
theorem wd_26 : Cond.methodLink RX2 5 objectInit ∈ lw_tbl := in_t1 42 rfl
set_option maxRecDepth 100000 in
theorem wd_27 : Cond.code yX2_init cX2_init 1 none ∈ lw_tbl := in_t1 41 rfl
set_option maxRecDepth 100000 in
theorem wd_28 : Cond.instanceMethod yX2_init ∈ lw_tbl := in_t1 40 rfl
set_option maxRecDepth 100000 in
theorem wd_29 : Cond.methodLink RX8 18 yX2_init ∈ lw_tbl := in_t1 39 rfl
set_option maxRecDepth 100000 in
theorem wd_30 : Cond.fieldLink RX1 15 "LightestRules$LandText" "length" "I" ∈ lw_tbl := in_t1 30 rfl
set_option maxRecDepth 100000 in
theorem wd_31 : Cond.fieldLink RX1 11 "LightestRules$LandText" "bytes" "[I" ∈ lw_tbl := in_t1 29 rfl
set_option maxRecDepth 100000 in
theorem wd_32 : Cond.arrayClass .int ∈ lw_tbl := in_t1 36 rfl
set_option maxRecDepth 100000 in
theorem wd_33 : Cond.methodLink RX1 3 objectInit ∈ lw_tbl := in_t1 28 rfl
set_option maxRecDepth 100000 in
theorem wd_34 : Cond.code yX1_init cX1_init 1 none ∈ lw_tbl := in_t1 27 rfl
set_option maxRecDepth 100000 in
theorem wd_35 : Cond.instanceMethod yX1_init ∈ lw_tbl := in_t1 26 rfl
set_option maxRecDepth 100000 in
theorem wd_36 : Cond.methodLink RX8 9 yX1_init ∈ lw_tbl := in_t1 25 rfl
set_option maxRecDepth 100000 in
theorem wd_37 : Cond.fieldLink RX8 65 "LightestRules" "lawNow" "I" ∈ lw_tbl := in_t1 175 rfl
set_option maxRecDepth 100000 in
theorem wd_38 : Cond.fieldLink RX8 61 "LightestRules" "year" "LLightestRules$Year;" ∈ lw_tbl := in_t1 174 rfl
set_option maxRecDepth 100000 in
theorem wd_39 : Cond.initialized RX7 ∈ lw_tbl := in_t1 9 rfl
set_option maxRecDepth 100000 in
theorem wd_40 : Cond.instantiable RX7 2 ∈ lw_tbl := in_t1 153 rfl
set_option maxRecDepth 100000 in
theorem wd_41 : Cond.classLink RX8 58 RX7 ∈ lw_tbl := in_t1 152 rfl
set_option maxRecDepth 100000 in
theorem wd_42 : Cond.fieldLink RX8 54 "LightestRules" "told" "LLightestRules$RulersLine;" ∈ lw_tbl := in_t1 173 rfl
set_option maxRecDepth 100000 in
theorem wd_43 : Cond.initialized RX3 ∈ lw_tbl := in_t1 8 rfl
set_option maxRecDepth 100000 in
theorem wd_44 : Cond.instantiable RX3 4 ∈ lw_tbl := in_t1 133 rfl
set_option maxRecDepth 100000 in
theorem wd_45 : Cond.classLink RX8 51 RX3 ∈ lw_tbl := in_t1 132 rfl
set_option maxRecDepth 100000 in
theorem wd_46 : Cond.fieldLink RX8 47 "LightestRules" "searches" "LLightestRules$Searches;" ∈ lw_tbl := in_t1 172 rfl
set_option maxRecDepth 100000 in
theorem wd_47 : Cond.initialized RX4 ∈ lw_tbl := in_t1 7 rfl
set_option maxRecDepth 100000 in
theorem wd_48 : Cond.instantiable RX4 7 ∈ lw_tbl := in_t1 105 rfl
set_option maxRecDepth 100000 in
theorem wd_49 : Cond.fieldLink RX6 19 "LightestRules$Weighings" "length" "I" ∈ lw_tbl := in_t1 94 rfl
set_option maxRecDepth 100000 in
theorem wd_50 : Cond.fieldLink RX6 16 "LightestRules$Weighings" "results" "[I" ∈ lw_tbl := in_t1 93 rfl
set_option maxRecDepth 100000 in
theorem wd_51 : Cond.fieldLink RX6 13 "LightestRules$Weighings" "rights" "[I" ∈ lw_tbl := in_t1 92 rfl
set_option maxRecDepth 100000 in
theorem wd_52 : Cond.fieldLink RX6 9 "LightestRules$Weighings" "lefts" "[I" ∈ lw_tbl := in_t1 91 rfl
set_option maxRecDepth 100000 in
theorem wd_53 : Cond.methodLink RX6 3 objectInit ∈ lw_tbl := in_t1 90 rfl
set_option maxRecDepth 100000 in
theorem wd_54 : Cond.code yX6_init cX6_init 1 none ∈ lw_tbl := in_t1 89 rfl
set_option maxRecDepth 100000 in
theorem wd_55 : Cond.instanceMethod yX6_init ∈ lw_tbl := in_t1 88 rfl
set_option maxRecDepth 100000 in
theorem wd_56 : Cond.methodLink RX8 39 yX6_init ∈ lw_tbl := in_t1 87 rfl
set_option maxRecDepth 100000 in
theorem wd_57 : Cond.fieldLink RX5 15 "LightestRules$Slots" "filledBits" "I" ∈ lw_tbl := in_t1 79 rfl
set_option maxRecDepth 100000 in
theorem wd_58 : Cond.fieldLink RX5 11 "LightestRules$Slots" "kept" "[I" ∈ lw_tbl := in_t1 78 rfl
set_option maxRecDepth 100000 in
theorem wd_59 : Cond.methodLink RX5 1 objectInit ∈ lw_tbl := in_t1 77 rfl
set_option maxRecDepth 100000 in
theorem wd_60 : Cond.code yX5_init cX5_init 1 none ∈ lw_tbl := in_t1 76 rfl
set_option maxRecDepth 100000 in
theorem wd_61 : Cond.instanceMethod yX5_init ∈ lw_tbl := in_t1 75 rfl
set_option maxRecDepth 100000 in
theorem wd_62 : Cond.methodLink RX8 32 yX5_init ∈ lw_tbl := in_t1 74 rfl
set_option maxRecDepth 100000 in
theorem wd_63 : Cond.fieldLink RX0 19 "LightestRules$ActRow" "length" "I" ∈ lw_tbl := in_t1 64 rfl
set_option maxRecDepth 100000 in
theorem wd_64 : Cond.fieldLink RX0 15 "LightestRules$ActRow" "first" "I" ∈ lw_tbl := in_t1 63 rfl
set_option maxRecDepth 100000 in
theorem wd_65 : Cond.fieldLink RX0 11 "LightestRules$ActRow" "before" "[I" ∈ lw_tbl := in_t1 62 rfl
set_option maxRecDepth 100000 in
theorem wd_66 : Cond.methodLink RX0 1 objectInit ∈ lw_tbl := in_t1 61 rfl
set_option maxRecDepth 100000 in
theorem wd_67 : Cond.code yX0_init cX0_init 1 none ∈ lw_tbl := in_t1 60 rfl
set_option maxRecDepth 100000 in
theorem wd_68 : Cond.instanceMethod yX0_init ∈ lw_tbl := in_t1 59 rfl
set_option maxRecDepth 100000 in
theorem wd_69 : Cond.methodLink RX8 25 yX0_init ∈ lw_tbl := in_t1 58 rfl
set_option maxRecDepth 100000 in
theorem wd_70 : Cond.fieldLink RX2 22 "LightestRules$People" "ill" "I" ∈ lw_tbl := in_t1 46 rfl
set_option maxRecDepth 100000 in
theorem wd_71 : Cond.fieldLink RX2 19 "LightestRules$People" "burn" "I" ∈ lw_tbl := in_t1 45 rfl
set_option maxRecDepth 100000 in
theorem wd_72 : Cond.fieldLink RX2 15 "LightestRules$People" "size" "I" ∈ lw_tbl := in_t1 44 rfl
set_option maxRecDepth 100000 in
theorem wd_73 : Cond.methodLink RX7 1 objectInit ∈ lw_tbl := in_t1 157 rfl
set_option maxRecDepth 100000 in
theorem wd_74 : Cond.code yX7_init cX7_init 1 none ∈ lw_tbl := in_t1 156 rfl
set_option maxRecDepth 100000 in
theorem wd_75 : Cond.instanceMethod yX7_init ∈ lw_tbl := in_t1 155 rfl
set_option maxRecDepth 100000 in
theorem wd_76 : Cond.methodLink RX8 60 yX7_init ∈ lw_tbl := in_t1 154 rfl
set_option maxRecDepth 100000 in
theorem wd_77 : Cond.fieldLink RX3 22 "LightestRules$RulersLine" "length" "I" ∈ lw_tbl := in_t1 141 rfl
set_option maxRecDepth 100000 in
theorem wd_78 : Cond.fieldLink RX3 18 "LightestRules$RulersLine" "ways" "[J" ∈ lw_tbl := in_t1 140 rfl
set_option maxRecDepth 100000 in
theorem wd_79 : Cond.arrayClass .long ∈ lw_tbl := in_t1 151 rfl
set_option maxRecDepth 100000 in
theorem wd_80 : Cond.fieldLink RX3 15 "LightestRules$RulersLine" "weights" "[I" ∈ lw_tbl := in_t1 139 rfl
set_option maxRecDepth 100000 in
theorem wd_81 : Cond.fieldLink RX3 11 "LightestRules$RulersLine" "rulers" "[I" ∈ lw_tbl := in_t1 138 rfl
set_option maxRecDepth 100000 in
theorem wd_82 : Cond.methodLink RX3 5 objectInit ∈ lw_tbl := in_t1 137 rfl
set_option maxRecDepth 100000 in
theorem wd_83 : Cond.code yX3_init cX3_init 1 none ∈ lw_tbl := in_t1 136 rfl
set_option maxRecDepth 100000 in
theorem wd_84 : Cond.instanceMethod yX3_init ∈ lw_tbl := in_t1 135 rfl
set_option maxRecDepth 100000 in
theorem wd_85 : Cond.methodLink RX8 53 yX3_init ∈ lw_tbl := in_t1 134 rfl
set_option maxRecDepth 100000 in
theorem wd_86 : Cond.fieldLink RX4 33 "LightestRules$Searches" "fresh" "Z" ∈ lw_tbl := in_t1 116 rfl
set_option maxRecDepth 100000 in
theorem wd_87 : Cond.fieldLink RX4 30 "LightestRules$Searches" "found" "I" ∈ lw_tbl := in_t1 115 rfl
set_option maxRecDepth 100000 in
theorem wd_88 : Cond.fieldLink RX4 26 "LightestRules$Searches" "length" "I" ∈ lw_tbl := in_t1 114 rfl
set_option maxRecDepth 100000 in
theorem wd_89 : Cond.fieldLink RX4 23 "LightestRules$Searches" "most" "[I" ∈ lw_tbl := in_t1 113 rfl
set_option maxRecDepth 100000 in
theorem wd_90 : Cond.fieldLink RX4 20 "LightestRules$Searches" "least" "[I" ∈ lw_tbl := in_t1 112 rfl
set_option maxRecDepth 100000 in
theorem wd_91 : Cond.fieldLink RX4 15 "LightestRules$Searches" "missing" "[I" ∈ lw_tbl := in_t1 111 rfl
set_option maxRecDepth 100000 in
theorem wd_92 : Cond.fieldLink RX4 11 "LightestRules$Searches" "searched" "[I" ∈ lw_tbl := in_t1 110 rfl
set_option maxRecDepth 100000 in
theorem wd_93 : Cond.methodLink RX4 3 objectInit ∈ lw_tbl := in_t1 109 rfl
set_option maxRecDepth 100000 in
theorem wd_94 : Cond.code yX4_init cX4_init 1 none ∈ lw_tbl := in_t1 108 rfl
set_option maxRecDepth 100000 in
theorem wd_95 : Cond.instanceMethod yX4_init ∈ lw_tbl := in_t1 107 rfl
set_option maxRecDepth 100000 in
theorem wd_96 : Cond.methodLink RX8 46 yX4_init ∈ lw_tbl := in_t1 106 rfl
set_option maxRecDepth 100000 in
theorem wd_97 : Cond.methodLink RX7 9 yX2_init ∈ lw_tbl := in_t1 159 rfl
set_option maxRecDepth 100000 in
theorem wd_98 : Cond.fieldLink RX7 16 "LightestRules$Year" "grown" "J" ∈ lw_tbl := in_t1 161 rfl
set_option maxRecDepth 100000 in
theorem wd_99 : Cond.fieldLink RX7 10 "LightestRules$Year" "lookalikes" "LLightestRules$People;" ∈ lw_tbl := in_t1 160 rfl
set_option maxRecDepth 100000 in
theorem wd_100 : Cond.classLink RX7 7 RX2 ∈ lw_tbl := in_t1 158 rfl
set_option maxRecDepth 100000 in
theorem wd_101 : Cond.code yX8_write cX8_write 4 (some .int) ∈ lw_tbl := in_t1 198 rfl
set_option maxRecDepth 100000 in
theorem wd_102 : Cond.code yX1_length cX1_length 1 (some .int) ∈ lw_tbl := in_t1 206 rfl
set_option maxRecDepth 100000 in
theorem wd_103 : Cond.selects RX1 yX1_length yX1_length ∈ lw_tbl := in_t1 205 rfl
set_option maxRecDepth 100000 in
theorem wd_104 : Cond.instanceMethod yX1_length ∈ lw_tbl := in_t1 204 rfl
set_option maxRecDepth 100000 in
theorem wd_105 : Cond.methodLink RX8 73 yX1_length ∈ lw_tbl := in_t1 203 rfl
set_option maxRecDepth 100000 in
theorem wd_106 : Cond.code yX1_append cX1_append 5 (some .boolean) ∈ lw_tbl := in_t1 202 rfl
set_option maxRecDepth 100000 in
theorem wd_107 : Cond.selects RX1 yX1_append yX1_append ∈ lw_tbl := in_t1 201 rfl
set_option maxRecDepth 100000 in
theorem wd_108 : Cond.instanceMethod yX1_append ∈ lw_tbl := in_t1 200 rfl
set_option maxRecDepth 100000 in
theorem wd_109 : Cond.methodLink RX8 69 yX1_append ∈ lw_tbl := in_t1 199 rfl
set_option maxRecDepth 100000 in
theorem wd_110 : Cond.initialized RX8 ∈ lw_tbl := in_t1 1 rfl
set_option maxRecDepth 100000 in
theorem wd_111 : Cond.selects RX8 yX8_write yX8_write ∈ lw_tbl := in_t1 197 rfl
set_option maxRecDepth 100000 in
theorem wd_112 : Cond.instanceMethod yX8_write ∈ lw_tbl := in_t1 196 rfl
set_option maxRecDepth 100000 in
theorem wd_113 : Cond.methodLink RL 15 yX8_write ∈ lw_tbl := in_t1 195 rfl
set_option maxRecDepth 100000 in
theorem wd_114 : Cond.code yX8_wipe cX8_wipe 2 (some .int) ∈ lw_tbl := in_t1 210 rfl
set_option maxRecDepth 100000 in
theorem wd_115 : Cond.code yX1_clear cX1_clear 1 none ∈ lw_tbl := in_t1 214 rfl
set_option maxRecDepth 100000 in
theorem wd_116 : Cond.selects RX1 yX1_clear yX1_clear ∈ lw_tbl := in_t1 213 rfl
set_option maxRecDepth 100000 in
theorem wd_117 : Cond.instanceMethod yX1_clear ∈ lw_tbl := in_t1 212 rfl
set_option maxRecDepth 100000 in
theorem wd_118 : Cond.methodLink RX8 77 yX1_clear ∈ lw_tbl := in_t1 211 rfl
set_option maxRecDepth 100000 in
theorem wd_119 : Cond.selects RX8 yX8_wipe yX8_wipe ∈ lw_tbl := in_t1 209 rfl
set_option maxRecDepth 100000 in
theorem wd_120 : Cond.instanceMethod yX8_wipe ∈ lw_tbl := in_t1 208 rfl
set_option maxRecDepth 100000 in
theorem wd_121 : Cond.methodLink RL 20 yX8_wipe ∈ lw_tbl := in_t1 207 rfl
set_option maxRecDepth 100000 in
theorem wd_122 : Cond.code yX8_fault cX8_fault 1 (some .int) ∈ lw_tbl := in_t1 218 rfl
set_option maxRecDepth 100000 in
theorem wd_123 : Cond.code yX1_mayStandAt cX1_mayStandAt 3 (some .boolean) ∈ lw_tbl := in_t1 225 rfl
set_option maxRecDepth 100000 in
theorem wd_124 : Cond.static yX1_mayStandAt ∈ lw_tbl := in_t1 224 rfl
set_option maxRecDepth 100000 in
theorem wd_125 : Cond.methodLink RX1 19 yX1_mayStandAt ∈ lw_tbl := in_t1 223 rfl
set_option maxRecDepth 100000 in
theorem wd_126 : Cond.code yX1_firstFault cX1_firstFault 2 (some .int) ∈ lw_tbl := in_t1 222 rfl
set_option maxRecDepth 100000 in
theorem wd_127 : Cond.selects RX1 yX1_firstFault yX1_firstFault ∈ lw_tbl := in_t1 221 rfl
set_option maxRecDepth 100000 in
theorem wd_128 : Cond.instanceMethod yX1_firstFault ∈ lw_tbl := in_t1 220 rfl
set_option maxRecDepth 100000 in
theorem wd_129 : Cond.methodLink RX8 80 yX1_firstFault ∈ lw_tbl := in_t1 219 rfl
set_option maxRecDepth 100000 in
theorem wd_130 : Cond.selects RX8 yX8_fault yX8_fault ∈ lw_tbl := in_t1 217 rfl
set_option maxRecDepth 100000 in
theorem wd_131 : Cond.instanceMethod yX8_fault ∈ lw_tbl := in_t1 216 rfl
set_option maxRecDepth 100000 in
theorem wd_132 : Cond.methodLink RL 25 yX8_fault ∈ lw_tbl := in_t1 215 rfl
set_option maxRecDepth 100000 in
theorem wd_133 : Cond.code yX8_land cX8_land 1 (some .int) ∈ lw_tbl := in_t1 229 rfl
set_option maxRecDepth 100000 in
theorem wd_134 : Cond.code yX2_settle cX2_settle 3 none ∈ lw_tbl := in_t1 237 rfl
set_option maxRecDepth 100000 in
theorem wd_135 : Cond.selects RX2 yX2_settle yX2_settle ∈ lw_tbl := in_t1 236 rfl
set_option maxRecDepth 100000 in
theorem wd_136 : Cond.instanceMethod yX2_settle ∈ lw_tbl := in_t1 235 rfl
set_option maxRecDepth 100000 in
theorem wd_137 : Cond.methodLink RX8 87 yX2_settle ∈ lw_tbl := in_t1 234 rfl
set_option maxRecDepth 100000 in
theorem wd_138 : Cond.code yX1_figure cX1_figure 2 (some .int) ∈ lw_tbl := in_t1 233 rfl
set_option maxRecDepth 100000 in
theorem wd_139 : Cond.selects RX1 yX1_figure yX1_figure ∈ lw_tbl := in_t1 232 rfl
set_option maxRecDepth 100000 in
theorem wd_140 : Cond.instanceMethod yX1_figure ∈ lw_tbl := in_t1 231 rfl
set_option maxRecDepth 100000 in
theorem wd_141 : Cond.methodLink RX8 83 yX1_figure ∈ lw_tbl := in_t1 230 rfl
set_option maxRecDepth 100000 in
theorem wd_142 : Cond.instanceMethod yX2_add ∈ lw_tbl := in_t2 15 rfl
set_option maxRecDepth 100000 in
theorem wd_143 : Cond.methodLink RX2 50 yX2_add ∈ lw_tbl := in_t2 14 rfl
set_option maxRecDepth 100000 in
theorem wd_144 : Cond.methodLink RX1 25 yX1_figure ∈ lw_tbl := in_t2 13 rfl
set_option maxRecDepth 100000 in
theorem wd_145 : Cond.code yX1_partFigure cX1_partFigure 3 (some .int) ∈ lw_tbl := in_t2 12 rfl
set_option maxRecDepth 100000 in
theorem wd_146 : Cond.selects RX1 yX1_partFigure yX1_partFigure ∈ lw_tbl := in_t2 11 rfl
set_option maxRecDepth 100000 in
theorem wd_147 : Cond.instanceMethod yX1_partFigure ∈ lw_tbl := in_t2 10 rfl
set_option maxRecDepth 100000 in
theorem wd_148 : Cond.methodLink RX2 47 yX1_partFigure ∈ lw_tbl := in_t2 9 rfl
set_option maxRecDepth 100000 in
theorem wd_149 : Cond.code yX1_parts cX1_parts 1 (some .int) ∈ lw_tbl := in_t2 5 rfl
set_option maxRecDepth 100000 in
theorem wd_150 : Cond.selects RX1 yX1_parts yX1_parts ∈ lw_tbl := in_t2 4 rfl
set_option maxRecDepth 100000 in
theorem wd_151 : Cond.instanceMethod yX1_parts ∈ lw_tbl := in_t2 3 rfl
set_option maxRecDepth 100000 in
theorem wd_152 : Cond.methodLink RX2 37 yX1_parts ∈ lw_tbl := in_t2 2 rfl
set_option maxRecDepth 100000 in
theorem wd_153 : Cond.methodLink RX2 31 yX1_figure ∈ lw_tbl := in_t2 1 rfl
set_option maxRecDepth 100000 in
theorem wd_154 : Cond.code yJ7_fill_53178 cJ7_fill_53178 4 none ∈ lw_tbl := in_t2 0 rfl
set_option maxRecDepth 100000 in
theorem wd_155 : Cond.initialized RJ7 ∈ lw_tbl := in_t1 11 rfl
set_option maxRecDepth 100000 in
theorem wd_156 : Cond.static yJ7_fill_53178 ∈ lw_tbl := in_t1 239 rfl
set_option maxRecDepth 100000 in
theorem wd_157 : Cond.methodLink RX2 25 yJ7_fill_53178 ∈ lw_tbl := in_t1 238 rfl
set_option maxRecDepth 100000 in
theorem wd_158 : Cond.code Lib.Math.min.name Lib.Math.min.code 2 (some .int) ∈ lw_tbl := in_t2 8 rfl
set_option maxRecDepth 100000 in
theorem wd_159 : Cond.initialized "java/lang/Math" ∈ lw_tbl := in_t1 12 rfl
set_option maxRecDepth 100000 in
theorem wd_160 : Cond.static Lib.Math.min.name ∈ lw_tbl := in_t2 7 rfl
set_option maxRecDepth 100000 in
theorem wd_161 : Cond.methodLink RX2 41 Lib.Math.min.name ∈ lw_tbl := in_t2 6 rfl
set_option maxRecDepth 100000 in
theorem wd_162 : Cond.code yX2_size cX2_size 1 (some .int) ∈ lw_tbl := in_t2 29 rfl
set_option maxRecDepth 100000 in
theorem wd_163 : Cond.selects RX2 yX2_size yX2_size ∈ lw_tbl := in_t2 28 rfl
set_option maxRecDepth 100000 in
theorem wd_164 : Cond.instanceMethod yX2_size ∈ lw_tbl := in_t2 27 rfl
set_option maxRecDepth 100000 in
theorem wd_165 : Cond.methodLink RX8 93 yX2_size ∈ lw_tbl := in_t2 26 rfl
set_option maxRecDepth 100000 in
theorem wd_166 : Cond.code yX5_clear cX5_clear 1 none ∈ lw_tbl := in_t2 25 rfl
set_option maxRecDepth 100000 in
theorem wd_167 : Cond.selects RX5 yX5_clear yX5_clear ∈ lw_tbl := in_t2 24 rfl
set_option maxRecDepth 100000 in
theorem wd_168 : Cond.instanceMethod yX5_clear ∈ lw_tbl := in_t2 23 rfl
set_option maxRecDepth 100000 in
theorem wd_169 : Cond.methodLink RX8 92 yX5_clear ∈ lw_tbl := in_t2 22 rfl
set_option maxRecDepth 100000 in
theorem wd_170 : Cond.code yX0_clear cX0_clear 1 none ∈ lw_tbl := in_t2 21 rfl
set_option maxRecDepth 100000 in
theorem wd_171 : Cond.selects RX0 yX0_clear yX0_clear ∈ lw_tbl := in_t2 20 rfl
set_option maxRecDepth 100000 in
theorem wd_172 : Cond.instanceMethod yX0_clear ∈ lw_tbl := in_t2 19 rfl
set_option maxRecDepth 100000 in
theorem wd_173 : Cond.methodLink RX8 91 yX0_clear ∈ lw_tbl := in_t2 18 rfl
set_option maxRecDepth 100000 in
theorem wd_174 : Cond.code yX2_add cX2_add 5 none ∈ lw_tbl := in_t2 17 rfl
set_option maxRecDepth 100000 in
theorem wd_175 : Cond.selects RX2 yX2_add yX2_add ∈ lw_tbl := in_t2 16 rfl
set_option maxRecDepth 100000 in
theorem wd_176 : Cond.selects RX8 yX8_land yX8_land ∈ lw_tbl := in_t1 228 rfl
set_option maxRecDepth 100000 in
theorem wd_177 : Cond.instanceMethod yX8_land ∈ lw_tbl := in_t1 227 rfl
set_option maxRecDepth 100000 in
theorem wd_178 : Cond.methodLink RL 29 yX8_land ∈ lw_tbl := in_t1 226 rfl
set_option maxRecDepth 100000 in
theorem wd_179 : Cond.code yX8_person cX8_person 3 (some .int) ∈ lw_tbl := in_t2 33 rfl
set_option maxRecDepth 100000 in
theorem wd_180 : Cond.selects RX2 yX2_isIll yX2_isIll ∈ lw_tbl := in_t2 53 rfl
set_option maxRecDepth 100000 in
theorem wd_181 : Cond.instanceMethod yX2_isIll ∈ lw_tbl := in_t2 52 rfl
set_option maxRecDepth 100000 in
theorem wd_182 : Cond.methodLink RX8 107 yX2_isIll ∈ lw_tbl := in_t2 51 rfl
set_option maxRecDepth 100000 in
theorem wd_183 : Cond.code yX2_pocketWeight cX2_pocketWeight 2 (some .int) ∈ lw_tbl := in_t2 50 rfl
set_option maxRecDepth 100000 in
theorem wd_184 : Cond.selects RX2 yX2_pocketWeight yX2_pocketWeight ∈ lw_tbl := in_tp 0 rfl
set_option maxRecDepth 100000 in
theorem wd_185 : Cond.instanceMethod yX2_pocketWeight ∈ lw_tbl := in_t2 49 rfl
set_option maxRecDepth 100000 in
theorem wd_186 : Cond.methodLink RX2 69 yX2_pocketWeight ∈ lw_tbl := in_t2 47 rfl
set_option maxRecDepth 100000 in
theorem wd_187 : Cond.methodLink RX2 60 yX2_get ∈ lw_tbl := in_t2 46 rfl
set_option maxRecDepth 100000 in
theorem wd_188 : Cond.code yX2_noonWeight cX2_noonWeight 2 (some .int) ∈ lw_tbl := in_t2 45 rfl
set_option maxRecDepth 100000 in
theorem wd_189 : Cond.selects RX2 yX2_noonWeight yX2_noonWeight ∈ lw_tbl := in_t2 44 rfl
set_option maxRecDepth 100000 in
theorem wd_190 : Cond.instanceMethod yX2_noonWeight ∈ lw_tbl := in_t2 43 rfl
set_option maxRecDepth 100000 in
theorem wd_191 : Cond.methodLink RX8 104 yX2_noonWeight ∈ lw_tbl := in_t2 42 rfl
set_option maxRecDepth 100000 in
theorem wd_192 : Cond.code yX2_get cX2_get 4 (some .int) ∈ lw_tbl := in_t2 41 rfl
set_option maxRecDepth 100000 in
theorem wd_193 : Cond.selects RX2 yX2_get yX2_get ∈ lw_tbl := in_t2 40 rfl
set_option maxRecDepth 100000 in
theorem wd_194 : Cond.instanceMethod yX2_get ∈ lw_tbl := in_t2 39 rfl
set_option maxRecDepth 100000 in
theorem wd_195 : Cond.methodLink RX8 100 yX2_get ∈ lw_tbl := in_t2 38 rfl
set_option maxRecDepth 100000 in
theorem wd_196 : Cond.code yX2_has cX2_has 2 (some .boolean) ∈ lw_tbl := in_t2 37 rfl
set_option maxRecDepth 100000 in
theorem wd_197 : Cond.selects RX2 yX2_has yX2_has ∈ lw_tbl := in_t2 36 rfl
set_option maxRecDepth 100000 in
theorem wd_198 : Cond.instanceMethod yX2_has ∈ lw_tbl := in_t2 35 rfl
set_option maxRecDepth 100000 in
theorem wd_199 : Cond.methodLink RX8 96 yX2_has ∈ lw_tbl := in_t2 34 rfl
set_option maxRecDepth 100000 in
theorem wd_200 : Cond.code yX2_isIll cX2_isIll 2 (some .boolean) ∈ lw_tbl := in_t2 54 rfl
set_option maxRecDepth 100000 in
theorem wd_201 : Cond.selects RX8 yX8_person yX8_person ∈ lw_tbl := in_t2 32 rfl
set_option maxRecDepth 100000 in
theorem wd_202 : Cond.instanceMethod yX8_person ∈ lw_tbl := in_t2 31 rfl
set_option maxRecDepth 100000 in
theorem wd_203 : Cond.methodLink RL 33 yX8_person ∈ lw_tbl := in_t2 30 rfl
set_option maxRecDepth 100000 in
theorem wd_204 : Cond.code yX8_law cX8_law 3 (some .int) ∈ lw_tbl := in_t2 58 rfl
set_option maxRecDepth 100000 in
theorem wd_205 : Cond.code yX8_isLaw cX8_isLaw 1 (some .boolean) ∈ lw_tbl := in_t2 61 rfl
set_option maxRecDepth 100000 in
theorem wd_206 : Cond.static yX8_isLaw ∈ lw_tbl := in_t2 60 rfl
set_option maxRecDepth 100000 in
theorem wd_207 : Cond.methodLink RX8 110 yX8_isLaw ∈ lw_tbl := in_t2 59 rfl
set_option maxRecDepth 100000 in
theorem wd_208 : Cond.selects RX8 yX8_law yX8_law ∈ lw_tbl := in_t2 57 rfl
set_option maxRecDepth 100000 in
theorem wd_209 : Cond.instanceMethod yX8_law ∈ lw_tbl := in_t2 56 rfl
set_option maxRecDepth 100000 in
theorem wd_210 : Cond.methodLink RL 38 yX8_law ∈ lw_tbl := in_t2 55 rfl
set_option maxRecDepth 100000 in
theorem wd_211 : Cond.code yX8_eat cX8_eat 4 (some .int) ∈ lw_tbl := in_t2 65 rfl
set_option maxRecDepth 100000 in
theorem wd_212 : Cond.code yX0_remember cX0_remember 2 none ∈ lw_tbl := in_t2 73 rfl
set_option maxRecDepth 100000 in
theorem wd_213 : Cond.selects RX0 yX0_remember yX0_remember ∈ lw_tbl := in_t2 72 rfl
set_option maxRecDepth 100000 in
theorem wd_214 : Cond.instanceMethod yX0_remember ∈ lw_tbl := in_t2 71 rfl
set_option maxRecDepth 100000 in
theorem wd_215 : Cond.methodLink RX8 116 yX0_remember ∈ lw_tbl := in_t2 70 rfl
set_option maxRecDepth 100000 in
theorem wd_216 : Cond.code yX8_refusalOf cX8_refusalOf 3 (some .int) ∈ lw_tbl := in_t2 69 rfl
set_option maxRecDepth 100000 in
theorem wd_217 : Cond.selects RX8 yX8_refusalOf yX8_refusalOf ∈ lw_tbl := in_tp 1 rfl
set_option maxRecDepth 100000 in
theorem wd_218 : Cond.instanceMethod yX8_refusalOf ∈ lw_tbl := in_t2 68 rfl
set_option maxRecDepth 100000 in
theorem wd_219 : Cond.methodLink RX8 113 yX8_refusalOf ∈ lw_tbl := in_t2 66 rfl
set_option maxRecDepth 100000 in
theorem wd_220 : Cond.code Lib.Math.max.name Lib.Math.max.code 2 (some .int) ∈ lw_tbl := in_t2 88 rfl
set_option maxRecDepth 100000 in
theorem wd_221 : Cond.static Lib.Math.max.name ∈ lw_tbl := in_t2 87 rfl
set_option maxRecDepth 100000 in
theorem wd_222 : Cond.methodLink RX2 63 Lib.Math.max.name ∈ lw_tbl := in_t2 86 rfl
set_option maxRecDepth 100000 in
theorem wd_223 : Cond.code yX2_gain cX2_gain 4 (some .int) ∈ lw_tbl := in_t2 85 rfl
set_option maxRecDepth 100000 in
theorem wd_224 : Cond.selects RX2 yX2_gain yX2_gain ∈ lw_tbl := in_t2 84 rfl
set_option maxRecDepth 100000 in
theorem wd_225 : Cond.instanceMethod yX2_gain ∈ lw_tbl := in_t2 83 rfl
set_option maxRecDepth 100000 in
theorem wd_226 : Cond.methodLink RX8 124 yX2_gain ∈ lw_tbl := in_t2 82 rfl
set_option maxRecDepth 100000 in
theorem wd_227 : Cond.methodLink RX8 120 yX2_add ∈ lw_tbl := in_t2 81 rfl
set_option maxRecDepth 100000 in
theorem wd_228 : Cond.initialized "java/lang/System" ∈ lw_tbl := in_t1 13 rfl
set_option maxRecDepth 100000 in
theorem wd_229 : Cond.static arraycopyName ∈ lw_tbl := in_t2 79 rfl
set_option maxRecDepth 100000 in
theorem wd_230 : Cond.native arraycopyName ∈ lw_tbl := in_t2 80 rfl
set_option maxRecDepth 100000 in
theorem wd_231 : Cond.methodLink RX2 54 arraycopyName ∈ lw_tbl := in_t2 78 rfl
set_option maxRecDepth 100000 in
theorem wd_232 : Cond.code yX2_copyTo cX2_copyTo 3 none ∈ lw_tbl := in_t2 77 rfl
set_option maxRecDepth 100000 in
theorem wd_233 : Cond.selects RX2 yX2_copyTo yX2_copyTo ∈ lw_tbl := in_t2 76 rfl
set_option maxRecDepth 100000 in
theorem wd_234 : Cond.instanceMethod yX2_copyTo ∈ lw_tbl := in_t2 75 rfl
set_option maxRecDepth 100000 in
theorem wd_235 : Cond.methodLink RX0 22 yX2_copyTo ∈ lw_tbl := in_t2 74 rfl
set_option maxRecDepth 100000 in
theorem wd_236 : Cond.selects RX8 yX8_eat yX8_eat ∈ lw_tbl := in_t2 64 rfl
set_option maxRecDepth 100000 in
theorem wd_237 : Cond.instanceMethod yX8_eat ∈ lw_tbl := in_t2 63 rfl
set_option maxRecDepth 100000 in
theorem wd_238 : Cond.methodLink RL 43 yX8_eat ∈ lw_tbl := in_t2 62 rfl
set_option maxRecDepth 100000 in
theorem wd_239 : Cond.code yX8_toil cX8_toil 4 (some .int) ∈ lw_tbl := in_t2 92 rfl
set_option maxRecDepth 100000 in
theorem wd_240 : Cond.selects RX8 yX8_toil yX8_toil ∈ lw_tbl := in_t2 91 rfl
set_option maxRecDepth 100000 in
theorem wd_241 : Cond.instanceMethod yX8_toil ∈ lw_tbl := in_t2 90 rfl
set_option maxRecDepth 100000 in
theorem wd_242 : Cond.methodLink RL 47 yX8_toil ∈ lw_tbl := in_t2 89 rfl
set_option maxRecDepth 100000 in
theorem wd_243 : Cond.code yX8_drink cX8_drink 5 (some .int) ∈ lw_tbl := in_t2 96 rfl
set_option maxRecDepth 100000 in
theorem wd_244 : Cond.selects RX8 yX8_drink yX8_drink ∈ lw_tbl := in_t2 95 rfl
set_option maxRecDepth 100000 in
theorem wd_245 : Cond.instanceMethod yX8_drink ∈ lw_tbl := in_t2 94 rfl
set_option maxRecDepth 100000 in
theorem wd_246 : Cond.methodLink RL 51 yX8_drink ∈ lw_tbl := in_t2 93 rfl
set_option maxRecDepth 100000 in
theorem wd_247 : Cond.code yX8_hand cX8_hand 5 (some .int) ∈ lw_tbl := in_t2 100 rfl
set_option maxRecDepth 100000 in
theorem wd_248 : Cond.selects RX8 yX8_hand yX8_hand ∈ lw_tbl := in_t2 99 rfl
set_option maxRecDepth 100000 in
theorem wd_249 : Cond.instanceMethod yX8_hand ∈ lw_tbl := in_t2 98 rfl
set_option maxRecDepth 100000 in
theorem wd_250 : Cond.methodLink RL 55 yX8_hand ∈ lw_tbl := in_t2 97 rfl
set_option maxRecDepth 100000 in
theorem wd_251 : Cond.code yX8_day cX8_day 1 (some .int) ∈ lw_tbl := in_t2 104 rfl
set_option maxRecDepth 100000 in
theorem wd_252 : Cond.code yX2_passDay cX2_passDay 3 none ∈ lw_tbl := in_t2 108 rfl
set_option maxRecDepth 100000 in
theorem wd_253 : Cond.selects RX2 yX2_passDay yX2_passDay ∈ lw_tbl := in_t2 107 rfl
set_option maxRecDepth 100000 in
theorem wd_254 : Cond.instanceMethod yX2_passDay ∈ lw_tbl := in_t2 106 rfl
set_option maxRecDepth 100000 in
theorem wd_255 : Cond.methodLink RX8 127 yX2_passDay ∈ lw_tbl := in_t2 105 rfl
set_option maxRecDepth 100000 in
theorem wd_256 : Cond.code yX2_today cX2_today 1 (some .int) ∈ lw_tbl := in_t2 113 rfl
set_option maxRecDepth 100000 in
theorem wd_257 : Cond.selects RX2 yX2_today yX2_today ∈ lw_tbl := in_t2 112 rfl
set_option maxRecDepth 100000 in
theorem wd_258 : Cond.instanceMethod yX2_today ∈ lw_tbl := in_t2 111 rfl
set_option maxRecDepth 100000 in
theorem wd_259 : Cond.methodLink RX8 130 yX2_today ∈ lw_tbl := in_t2 110 rfl
set_option maxRecDepth 100000 in
theorem wd_260 : Cond.methodLink RX2 66 yX2_gain ∈ lw_tbl := in_t2 109 rfl
set_option maxRecDepth 100000 in
theorem wd_261 : Cond.selects RX8 yX8_day yX8_day ∈ lw_tbl := in_t2 103 rfl
set_option maxRecDepth 100000 in
theorem wd_262 : Cond.instanceMethod yX8_day ∈ lw_tbl := in_t2 102 rfl
set_option maxRecDepth 100000 in
theorem wd_263 : Cond.methodLink RL 60 yX8_day ∈ lw_tbl := in_t2 101 rfl
set_option maxRecDepth 100000 in
theorem wd_264 : Cond.code yX8_crown cX8_crown 1 (some .int) ∈ lw_tbl := in_t2 117 rfl
set_option maxRecDepth 100000 in
theorem wd_265 : Cond.instanceMethod yX2_lightestBut ∈ lw_tbl := in_t2 129 rfl
set_option maxRecDepth 100000 in
theorem wd_266 : Cond.methodLink RX2 79 yX2_lightestBut ∈ lw_tbl := in_t2 127 rfl
set_option maxRecDepth 100000 in
theorem wd_267 : Cond.methodLink RX2 72 yX2_isIll ∈ lw_tbl := in_t2 126 rfl
set_option maxRecDepth 100000 in
theorem wd_268 : Cond.code yX2_illBits cX2_illBits 3 (some .int) ∈ lw_tbl := in_t2 125 rfl
set_option maxRecDepth 100000 in
theorem wd_269 : Cond.selects RX2 yX2_illBits yX2_illBits ∈ lw_tbl := in_t2 124 rfl
set_option maxRecDepth 100000 in
theorem wd_270 : Cond.instanceMethod yX2_illBits ∈ lw_tbl := in_t2 123 rfl
set_option maxRecDepth 100000 in
theorem wd_271 : Cond.methodLink RX2 76 yX2_illBits ∈ lw_tbl := in_t2 122 rfl
set_option maxRecDepth 100000 in
theorem wd_272 : Cond.code yX2_crownedBy cX2_crownedBy 3 (some .int) ∈ lw_tbl := in_t2 121 rfl
set_option maxRecDepth 100000 in
theorem wd_273 : Cond.selects RX2 yX2_crownedBy yX2_crownedBy ∈ lw_tbl := in_t2 120 rfl
set_option maxRecDepth 100000 in
theorem wd_274 : Cond.instanceMethod yX2_crownedBy ∈ lw_tbl := in_t2 119 rfl
set_option maxRecDepth 100000 in
theorem wd_275 : Cond.methodLink RX8 133 yX2_crownedBy ∈ lw_tbl := in_t2 118 rfl
