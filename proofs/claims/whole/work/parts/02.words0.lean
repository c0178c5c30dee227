def wt : List Cond := lw_tbl.filter goodWord
theorem in_wt {w : Cond} (i : Nat) (h : lw_tbl[i]? = some w) (hg : goodWord w = true) : w ∈ wt := List.mem_filter.mpr ⟨List.mem_of_getElem? h, hg⟩
theorem wt_good : ∀ w ∈ wt, (w.onTables && w.keeps) = true ∨ ∃ ty, w = .arrayClass ty := fun w h => good_of_word (List.mem_filter.mp h).2
theorem mw_0 : (.selects RX2 yX2_advance yX2_advance : Cond) ∈ wt := in_wt 0 (by decide +kernel) (by decide +kernel)
theorem mw_1 : (.selects RX2 yX2_scanLetters yX2_scanLetters : Cond) ∈ wt := in_wt 1 (by decide +kernel) (by decide +kernel)
theorem mw_2 : (.selects RX2 yX2_scanNumber yX2_scanNumber : Cond) ∈ wt := in_wt 2 (by decide +kernel) (by decide +kernel)
theorem mw_3 : (.selects RX2 yX2_tellItem yX2_tellItem : Cond) ∈ wt := in_wt 3 (by decide +kernel) (by decide +kernel)
theorem mw_4 : (.selects RX2 yX2_mayBegin yX2_mayBegin : Cond) ∈ wt := in_wt 4 (by decide +kernel) (by decide +kernel)
theorem mw_5 : (.selects RX2 yX2_tellOne yX2_tellOne : Cond) ∈ wt := in_wt 5 (by decide +kernel) (by decide +kernel)
theorem mw_6 : (.selects RX2 yX2_isNumber yX2_isNumber : Cond) ∈ wt := in_wt 6 (by decide +kernel) (by decide +kernel)
theorem mw_7 : (.selects RX2 yX2_tellLongest yX2_tellLongest : Cond) ∈ wt := in_wt 7 (by decide +kernel) (by decide +kernel)
theorem mw_8 : (.selects RX2 yX2_tellChair yX2_tellChair : Cond) ∈ wt := in_wt 8 (by decide +kernel) (by decide +kernel)
theorem mw_9 : (.selects RX7 yX7_isOne yX7_isOne : Cond) ∈ wt := in_wt 9 (by decide +kernel) (by decide +kernel)
theorem mw_10 : (.selects RX5 yX5_loseOldest yX5_loseOldest : Cond) ∈ wt := in_wt 10 (by decide +kernel) (by decide +kernel)
theorem mw_11 : (.selects RX1 yX1_dropTips yX1_dropTips : Cond) ∈ wt := in_wt 11 (by decide +kernel) (by decide +kernel)
theorem mw_12 : (.selects RX7 yX7_layersOfAll yX7_layersOfAll : Cond) ∈ wt := in_wt 12 (by decide +kernel) (by decide +kernel)
theorem mw_13 : (.selects RX7 yX7_sweptIntoAll yX7_sweptIntoAll : Cond) ∈ wt := in_wt 13 (by decide +kernel) (by decide +kernel)
theorem mw_14 : (.selects RX7 yX7_mostIn yX7_mostIn : Cond) ∈ wt := in_wt 14 (by decide +kernel) (by decide +kernel)
theorem mw_15 : (.selects RX7 yX7_blushes yX7_blushes : Cond) ∈ wt := in_wt 15 (by decide +kernel) (by decide +kernel)
theorem mw_16 : (.selects RX3 yX3_spend yX3_spend : Cond) ∈ wt := in_wt 16 (by decide +kernel) (by decide +kernel)
theorem mw_17 : (.selects RX3 yX3_countWhatIsLeft yX3_countWhatIsLeft : Cond) ∈ wt := in_wt 17 (by decide +kernel) (by decide +kernel)
theorem mw_18 : (.selects RX3 yX3_suffices yX3_suffices : Cond) ∈ wt := in_wt 18 (by decide +kernel) (by decide +kernel)
theorem mw_19 : (.selects RX7 yX7_thoughtsOf yX7_thoughtsOf : Cond) ∈ wt := in_wt 19 (by decide +kernel) (by decide +kernel)
theorem mw_20 : (.selects RX7 yX7_whoseLock yX7_whoseLock : Cond) ∈ wt := in_wt 20 (by decide +kernel) (by decide +kernel)
theorem mw_21 : (.selects RX7 yX7_nextInLock yX7_nextInLock : Cond) ∈ wt := in_wt 21 (by decide +kernel) (by decide +kernel)
theorem mw_22 : (.selects RX7 yX7_shareOutHeard yX7_shareOutHeard : Cond) ∈ wt := in_wt 22 (by decide +kernel) (by decide +kernel)
theorem mw_23 : (.selects RX7 yX7_allHeardIsSo yX7_allHeardIsSo : Cond) ∈ wt := in_wt 23 (by decide +kernel) (by decide +kernel)
theorem mw_24 : (.selects RX7 yX7_markOne yX7_markOne : Cond) ∈ wt := in_wt 24 (by decide +kernel) (by decide +kernel)
theorem mw_25 : (.selects RX7 yX7_markPoet yX7_markPoet : Cond) ∈ wt := in_wt 25 (by decide +kernel) (by decide +kernel)
theorem mw_26 : (.selects RX7 yX7_markBride yX7_markBride : Cond) ∈ wt := in_wt 26 (by decide +kernel) (by decide +kernel)
theorem mw_27 : (.selects RX7 yX7_markWig yX7_markWig : Cond) ∈ wt := in_wt 27 (by decide +kernel) (by decide +kernel)
theorem mw_28 : (.selects RX7 yX7_markNun yX7_markNun : Cond) ∈ wt := in_wt 28 (by decide +kernel) (by decide +kernel)
theorem mw_29 : (.selects RX7 yX7_markBald yX7_markBald : Cond) ∈ wt := in_wt 29 (by decide +kernel) (by decide +kernel)
theorem mw_30 : (.selects RX8 yX8_next yX8_next : Cond) ∈ wt := in_wt 30 (by decide +kernel) (by decide +kernel)
theorem mw_31 : (.selects RX8 yX8_letterAt yX8_letterAt : Cond) ∈ wt := in_wt 31 (by decide +kernel) (by decide +kernel)
theorem mw_32 : (.selects RX8 yX8_readItem yX8_readItem : Cond) ∈ wt := in_wt 32 (by decide +kernel) (by decide +kernel)
theorem mw_33 : (.selects RX8 yX8_mayBegin yX8_mayBegin : Cond) ∈ wt := in_wt 33 (by decide +kernel) (by decide +kernel)
theorem mw_34 : (.selects RX8 yX8_readOne yX8_readOne : Cond) ∈ wt := in_wt 34 (by decide +kernel) (by decide +kernel)
theorem mw_35 : (.selects RX8 yX8_takesNumber yX8_takesNumber : Cond) ∈ wt := in_wt 35 (by decide +kernel) (by decide +kernel)
theorem mw_36 : (.selects RX8 yX8_settles yX8_settles : Cond) ∈ wt := in_wt 36 (by decide +kernel) (by decide +kernel)
theorem mw_37 : (.selects RX8 yX8_isOne yX8_isOne : Cond) ∈ wt := in_wt 37 (by decide +kernel) (by decide +kernel)
theorem mw_38 : (.selects RX8 yX8_layersOf yX8_layersOf : Cond) ∈ wt := in_wt 38 (by decide +kernel) (by decide +kernel)
theorem mw_39 : (.selects RX8 yX8_layerOf yX8_layerOf : Cond) ∈ wt := in_wt 39 (by decide +kernel) (by decide +kernel)
theorem mw_40 : (.selects RX8 yX8_remembers yX8_remembers : Cond) ∈ wt := in_wt 40 (by decide +kernel) (by decide +kernel)
theorem mw_41 : (.selects RX8 yX8_grows yX8_grows : Cond) ∈ wt := in_wt 41 (by decide +kernel) (by decide +kernel)
theorem mw_42 : (.selects RX8 yX8_thinks yX8_thinks : Cond) ∈ wt := in_wt 42 (by decide +kernel) (by decide +kernel)
theorem mw_43 : (.selects RX8 yX8_loses yX8_loses : Cond) ∈ wt := in_wt 43 (by decide +kernel) (by decide +kernel)
theorem mw_44 : (.selects RX8 yX8_inJar yX8_inJar : Cond) ∈ wt := in_wt 44 (by decide +kernel) (by decide +kernel)
theorem mw_45 : (.selects RX8 yX8_asItIs yX8_asItIs : Cond) ∈ wt := in_wt 45 (by decide +kernel) (by decide +kernel)
theorem mw_46 : (.selects RX8 yX8_growsTried yX8_growsTried : Cond) ∈ wt := in_wt 46 (by decide +kernel) (by decide +kernel)
theorem mw_47 : (.selects RX8 yX8_isMost yX8_isMost : Cond) ∈ wt := in_wt 47 (by decide +kernel) (by decide +kernel)
theorem mw_48 : (.selects RX8 yX8_thoughtsOf yX8_thoughtsOf : Cond) ∈ wt := in_wt 48 (by decide +kernel) (by decide +kernel)
theorem mw_49 : (.selects RX8 yX8_isLock yX8_isLock : Cond) ∈ wt := in_wt 49 (by decide +kernel) (by decide +kernel)
theorem mw_50 : (.selects RX8 yX8_isHeard yX8_isHeard : Cond) ∈ wt := in_wt 50 (by decide +kernel) (by decide +kernel)
theorem mw_51 : (.initialized RL : Cond) ∈ wt := in_wt 51 (by decide +kernel) (by decide +kernel)
theorem mw_52 : (.initialized RX7 : Cond) ∈ wt := in_wt 52 (by decide +kernel) (by decide +kernel)
theorem mw_53 : (.initialized RX2 : Cond) ∈ wt := in_wt 53 (by decide +kernel) (by decide +kernel)
theorem mw_54 : (.initialized RX4 : Cond) ∈ wt := in_wt 54 (by decide +kernel) (by decide +kernel)
theorem mw_55 : (.initialized RX6 : Cond) ∈ wt := in_wt 55 (by decide +kernel) (by decide +kernel)
theorem mw_56 : (.initialized RX5 : Cond) ∈ wt := in_wt 56 (by decide +kernel) (by decide +kernel)
theorem mw_57 : (.initialized RX1 : Cond) ∈ wt := in_wt 57 (by decide +kernel) (by decide +kernel)
theorem mw_58 : (.initialized RJ7 : Cond) ∈ wt := in_wt 58 (by decide +kernel) (by decide +kernel)
theorem mw_59 : (.initialized RX0 : Cond) ∈ wt := in_wt 59 (by decide +kernel) (by decide +kernel)
theorem mw_60 : (.initialized RX3 : Cond) ∈ wt := in_wt 60 (by decide +kernel) (by decide +kernel)
theorem mw_61 : (.initialized RX8 : Cond) ∈ wt := in_wt 61 (by decide +kernel) (by decide +kernel)
theorem mw_62 : (.initialized RJ9 : Cond) ∈ wt := in_wt 62 (by decide +kernel) (by decide +kernel)
theorem mw_63 : (.initialized RJ10 : Cond) ∈ wt := in_wt 63 (by decide +kernel) (by decide +kernel)
theorem mw_64 : (.initialized RJ6 : Cond) ∈ wt := in_wt 64 (by decide +kernel) (by decide +kernel)
theorem mw_65 : (.classLink RL 7 RX7 : Cond) ∈ wt := in_wt 65 (by decide +kernel) (by decide +kernel)
theorem mw_66 : (.instantiable RX7 11 : Cond) ∈ wt := in_wt 66 (by decide +kernel) (by decide +kernel)
theorem mw_67 : (.methodLink RL 9 yX7_init : Cond) ∈ wt := in_wt 67 (by decide +kernel) (by decide +kernel)
theorem mw_68 : (.instanceMethod yX7_init : Cond) ∈ wt := in_wt 68 (by decide +kernel) (by decide +kernel)
set_option maxRecDepth 100000 in
theorem mw_69 : (.code yX7_init prog_1_method_1_code 2 (Option.none : Option Jvm.ClassFile.FieldType) : Cond) ∈ wt := in_wt 69 rfl rfl
theorem mw_70 : (.methodLink RX7 1 Lib.objectInit : Cond) ∈ wt := in_wt 70 (by decide +kernel) (by decide +kernel)
theorem mw_71 : (.instanceMethod Lib.objectInit : Cond) ∈ wt := in_wt 71 (by decide +kernel) (by decide +kernel)
set_option maxRecDepth 100000 in
theorem mw_72 : (.code Lib.objectInit object_method_1_code 1 (Option.none : Option Jvm.ClassFile.FieldType) : Cond) ∈ wt := in_wt 72 rfl rfl
theorem mw_73 : (.classLink RX7 7 RX2 : Cond) ∈ wt := in_wt 73 (by decide +kernel) (by decide +kernel)
theorem mw_74 : (.instantiable RX2 8 : Cond) ∈ wt := in_wt 74 (by decide +kernel) (by decide +kernel)
theorem mw_76 : (.instanceMethod yX2_init : Cond) ∈ wt := in_wt 76 (by decide +kernel) (by decide +kernel)
set_option maxRecDepth 100000 in
theorem mw_77 : (.code yX2_init prog_4_method_1_code 1 (Option.none : Option Jvm.ClassFile.FieldType) : Cond) ∈ wt := in_wt 77 rfl rfl
theorem mw_78 : (.methodLink RX2 3 Lib.objectInit : Cond) ∈ wt := in_wt 78 (by decide +kernel) (by decide +kernel)
theorem mw_79 : (.classLink RX2 9 RX4 : Cond) ∈ wt := in_wt 79 (by decide +kernel) (by decide +kernel)
theorem mw_80 : (.instantiable RX4 2 : Cond) ∈ wt := in_wt 80 (by decide +kernel) (by decide +kernel)
theorem mw_82 : (.instanceMethod yX4_init : Cond) ∈ wt := in_wt 82 (by decide +kernel) (by decide +kernel)
set_option maxRecDepth 100000 in
theorem mw_83 : (.code yX4_init prog_6_method_1_code 1 (Option.none : Option Jvm.ClassFile.FieldType) : Cond) ∈ wt := in_wt 83 rfl rfl
theorem mw_84 : (.methodLink RX4 3 Lib.objectInit : Cond) ∈ wt := in_wt 84 (by decide +kernel) (by decide +kernel)
theorem mw_85 : (.fieldLink RX4 9 "BarberJars$Text" "bytes" "[I" : Cond) ∈ wt := in_wt 85 (by decide +kernel) (by decide +kernel)
theorem mw_86 : (.fieldLink RX7 74 "BarberJars$Text" "bytes" "[I" : Cond) ∈ wt := in_wt 86 (by decide +kernel) (by decide +kernel)
theorem mw_87 : (.fieldLink RX2 98 "BarberJars$Text" "bytes" "[I" : Cond) ∈ wt := in_wt 87 (by decide +kernel) (by decide +kernel)
theorem mw_88 : (.fieldLink RX7 68 "BarberJars$Text" "size" "I" : Cond) ∈ wt := in_wt 88 (by decide +kernel) (by decide +kernel)
theorem mw_89 : (.fieldLink RX2 95 "BarberJars$Text" "size" "I" : Cond) ∈ wt := in_wt 89 (by decide +kernel) (by decide +kernel)
theorem mw_95 : (.arrayClass Jvm.ClassFile.FieldType.int : Cond) ∈ wt := in_wt 95 (by decide +kernel) (by decide +kernel)
theorem mw_96 : (.classLink RX2 18 RX6 : Cond) ∈ wt := in_wt 96 (by decide +kernel) (by decide +kernel)
theorem mw_97 : (.instantiable RX6 6 : Cond) ∈ wt := in_wt 97 (by decide +kernel) (by decide +kernel)
theorem mw_99 : (.instanceMethod yX6_init : Cond) ∈ wt := in_wt 99 (by decide +kernel) (by decide +kernel)
set_option maxRecDepth 100000 in
theorem mw_100 : (.code yX6_init prog_8_method_1_code 1 (Option.none : Option Jvm.ClassFile.FieldType) : Cond) ∈ wt := in_wt 100 rfl rfl
theorem mw_101 : (.methodLink RX6 3 Lib.objectInit : Cond) ∈ wt := in_wt 101 (by decide +kernel) (by decide +kernel)
theorem mw_102 : (.fieldLink RX6 9 "BarberJars$Town" "secrets" "[I" : Cond) ∈ wt := in_wt 102 (by decide +kernel) (by decide +kernel)
theorem mw_103 : (.fieldLink RX2 75 "BarberJars$Town" "secrets" "[I" : Cond) ∈ wt := in_wt 103 (by decide +kernel) (by decide +kernel)
theorem mw_104 : (.fieldLink RX7 106 "BarberJars$Town" "secrets" "[I" : Cond) ∈ wt := in_wt 104 (by decide +kernel) (by decide +kernel)
theorem mw_105 : (.fieldLink RX6 15 "BarberJars$Town" "weekSizes" "[I" : Cond) ∈ wt := in_wt 105 (by decide +kernel) (by decide +kernel)
theorem mw_106 : (.fieldLink RX7 109 "BarberJars$Town" "weekSizes" "[I" : Cond) ∈ wt := in_wt 106 (by decide +kernel) (by decide +kernel)
theorem mw_107 : (.fieldLink RX2 82 "BarberJars$Town" "weekSizes" "[I" : Cond) ∈ wt := in_wt 107 (by decide +kernel) (by decide +kernel)
theorem mw_108 : (.fieldLink RX6 18 "BarberJars$Town" "weeks" "[I" : Cond) ∈ wt := in_wt 108 (by decide +kernel) (by decide +kernel)
theorem mw_109 : (.fieldLink RX2 79 "BarberJars$Town" "weeks" "[I" : Cond) ∈ wt := in_wt 109 (by decide +kernel) (by decide +kernel)
theorem mw_110 : (.fieldLink RX7 124 "BarberJars$Town" "weeks" "[I" : Cond) ∈ wt := in_wt 110 (by decide +kernel) (by decide +kernel)
theorem mw_111 : (.fieldLink RX6 25 "BarberJars$Town" "people" "I" : Cond) ∈ wt := in_wt 111 (by decide +kernel) (by decide +kernel)
theorem mw_112 : (.fieldLink RX2 59 "BarberJars$Town" "people" "I" : Cond) ∈ wt := in_wt 112 (by decide +kernel) (by decide +kernel)
theorem mw_113 : (.fieldLink RX1 49 "BarberJars$Town" "people" "I" : Cond) ∈ wt := in_wt 113 (by decide +kernel) (by decide +kernel)
theorem mw_114 : (.fieldLink RX7 192 "BarberJars$Town" "people" "I" : Cond) ∈ wt := in_wt 114 (by decide +kernel) (by decide +kernel)
theorem mw_115 : (.fieldLink RX6 21 "BarberJars$Town" "longest" "I" : Cond) ∈ wt := in_wt 115 (by decide +kernel) (by decide +kernel)
theorem mw_116 : (.fieldLink RX3 27 "BarberJars$Town" "longest" "I" : Cond) ∈ wt := in_wt 116 (by decide +kernel) (by decide +kernel)
theorem mw_117 : (.fieldLink RX2 85 "BarberJars$Town" "longest" "I" : Cond) ∈ wt := in_wt 117 (by decide +kernel) (by decide +kernel)
theorem mw_118 : (.fieldLink RX1 56 "BarberJars$Town" "longest" "I" : Cond) ∈ wt := in_wt 118 (by decide +kernel) (by decide +kernel)
theorem mw_119 : (.fieldLink RX7 264 "BarberJars$Town" "longest" "I" : Cond) ∈ wt := in_wt 119 (by decide +kernel) (by decide +kernel)
theorem mw_120 : (.fieldLink RX6 28 "BarberJars$Town" "chair" "I" : Cond) ∈ wt := in_wt 120 (by decide +kernel) (by decide +kernel)
theorem mw_121 : (.fieldLink RX7 88 "BarberJars$Town" "chair" "I" : Cond) ∈ wt := in_wt 121 (by decide +kernel) (by decide +kernel)
theorem mw_122 : (.fieldLink RX2 88 "BarberJars$Town" "chair" "I" : Cond) ∈ wt := in_wt 122 (by decide +kernel) (by decide +kernel)
theorem mw_136 : (.fieldLink RX2 12 "BarberJars$Reader" "text" "LBarberJars$Text;" : Cond) ∈ wt := in_wt 136 (by decide +kernel) (by decide +kernel)
theorem mw_137 : (.fieldLink RX7 16 "BarberJars$Reader" "text" "LBarberJars$Text;" : Cond) ∈ wt := in_wt 137 (by decide +kernel) (by decide +kernel)
theorem mw_138 : (.fieldLink RX2 21 "BarberJars$Reader" "draft" "LBarberJars$Town;" : Cond) ∈ wt := in_wt 138 (by decide +kernel) (by decide +kernel)
theorem mw_139 : (.fieldLink RX7 81 "BarberJars$Reader" "draft" "LBarberJars$Town;" : Cond) ∈ wt := in_wt 139 (by decide +kernel) (by decide +kernel)
theorem mw_140 : (.fieldLink RX2 35 "BarberJars$Reader" "place" "I" : Cond) ∈ wt := in_wt 140 (by decide +kernel) (by decide +kernel)
theorem mw_141 : (.fieldLink RX2 49 "BarberJars$Reader" "start" "I" : Cond) ∈ wt := in_wt 141 (by decide +kernel) (by decide +kernel)
theorem mw_142 : (.fieldLink RX2 42 "BarberJars$Reader" "sort" "I" : Cond) ∈ wt := in_wt 142 (by decide +kernel) (by decide +kernel)
theorem mw_143 : (.fieldLink RX2 52 "BarberJars$Reader" "value" "I" : Cond) ∈ wt := in_wt 143 (by decide +kernel) (by decide +kernel)
theorem mw_144 : (.fieldLink RX2 28 "BarberJars$Reader" "longestTold" "Z" : Cond) ∈ wt := in_wt 144 (by decide +kernel) (by decide +kernel)
theorem mw_145 : (.fieldLink RX2 32 "BarberJars$Reader" "chairTold" "Z" : Cond) ∈ wt := in_wt 145 (by decide +kernel) (by decide +kernel)
theorem mw_163 : (.classLink RX7 21 RX5 : Cond) ∈ wt := in_wt 163 (by decide +kernel) (by decide +kernel)
theorem mw_164 : (.instantiable RX5 3 : Cond) ∈ wt := in_wt 164 (by decide +kernel) (by decide +kernel)
theorem mw_165 : (.methodLink RX7 23 yX5_init : Cond) ∈ wt := in_wt 165 (by decide +kernel) (by decide +kernel)
theorem mw_166 : (.instanceMethod yX5_init : Cond) ∈ wt := in_wt 166 (by decide +kernel) (by decide +kernel)
set_option maxRecDepth 100000 in
theorem mw_167 : (.code yX5_init prog_7_method_1_code 2 (Option.none : Option Jvm.ClassFile.FieldType) : Cond) ∈ wt := in_wt 167 rfl rfl
theorem mw_168 : (.methodLink RX5 3 Lib.objectInit : Cond) ∈ wt := in_wt 168 (by decide +kernel) (by decide +kernel)
theorem mw_169 : (.classLink RX5 9 RX1 : Cond) ∈ wt := in_wt 169 (by decide +kernel) (by decide +kernel)
theorem mw_170 : (.instantiable RX1 6 : Cond) ∈ wt := in_wt 170 (by decide +kernel) (by decide +kernel)
theorem mw_171 : (.methodLink RX5 11 yX1_init : Cond) ∈ wt := in_wt 171 (by decide +kernel) (by decide +kernel)
theorem mw_172 : (.instanceMethod yX1_init : Cond) ∈ wt := in_wt 172 (by decide +kernel) (by decide +kernel)
set_option maxRecDepth 100000 in
theorem mw_173 : (.code yX1_init prog_3_method_1_code 1 (Option.none : Option Jvm.ClassFile.FieldType) : Cond) ∈ wt := in_wt 173 rfl rfl
theorem mw_174 : (.methodLink RX1 3 Lib.objectInit : Cond) ∈ wt := in_wt 174 (by decide +kernel) (by decide +kernel)
theorem mw_175 : (.methodLink RX1 24 yJ7_fill_53178 : Cond) ∈ wt := in_wt 175 (by decide +kernel) (by decide +kernel)
theorem mw_176 : (.static yJ7_fill_53178 : Cond) ∈ wt := in_wt 176 (by decide +kernel) (by decide +kernel)
set_option maxRecDepth 100000 in
theorem mw_177 : (.code yJ7_fill_53178 prog_14_method_103_code 4 (Option.none : Option Jvm.ClassFile.FieldType) : Cond) ∈ wt := in_wt 177 rfl rfl
theorem mw_178 : (.fieldLink RX1 9 "BarberJars$Moment" "sizes" "[I" : Cond) ∈ wt := in_wt 178 (by decide +kernel) (by decide +kernel)
theorem mw_179 : (.fieldLink RX3 34 "BarberJars$Moment" "sizes" "[I" : Cond) ∈ wt := in_wt 179 (by decide +kernel) (by decide +kernel)
theorem mw_180 : (.fieldLink RX0 28 "BarberJars$Moment" "sizes" "[I" : Cond) ∈ wt := in_wt 180 (by decide +kernel) (by decide +kernel)
theorem mw_181 : (.fieldLink RX7 112 "BarberJars$Moment" "sizes" "[I" : Cond) ∈ wt := in_wt 181 (by decide +kernel) (by decide +kernel)
theorem mw_182 : (.fieldLink RX1 15 "BarberJars$Moment" "made" "[I" : Cond) ∈ wt := in_wt 182 (by decide +kernel) (by decide +kernel)
theorem mw_183 : (.fieldLink RX7 117 "BarberJars$Moment" "made" "[I" : Cond) ∈ wt := in_wt 183 (by decide +kernel) (by decide +kernel)
theorem mw_184 : (.fieldLink RX1 18 "BarberJars$Moment" "hair" "[I" : Cond) ∈ wt := in_wt 184 (by decide +kernel) (by decide +kernel)
theorem mw_185 : (.fieldLink RX1 21 "BarberJars$Moment" "swept" "[I" : Cond) ∈ wt := in_wt 185 (by decide +kernel) (by decide +kernel)
theorem mw_186 : (.fieldLink RX1 30 "BarberJars$Moment" "day" "I" : Cond) ∈ wt := in_wt 186 (by decide +kernel) (by decide +kernel)
theorem mw_187 : (.fieldLink RX7 139 "BarberJars$Moment" "day" "I" : Cond) ∈ wt := in_wt 187 (by decide +kernel) (by decide +kernel)
theorem mw_188 : (.fieldLink RX1 34 "BarberJars$Moment" "chair" "I" : Cond) ∈ wt := in_wt 188 (by decide +kernel) (by decide +kernel)
theorem mw_189 : (.fieldLink RX7 152 "BarberJars$Moment" "chair" "I" : Cond) ∈ wt := in_wt 189 (by decide +kernel) (by decide +kernel)
theorem mw_204 : (.fieldLink RX5 12 "BarberJars$Times" "present" "LBarberJars$Moment;" : Cond) ∈ wt := in_wt 204 (by decide +kernel) (by decide +kernel)
theorem mw_205 : (.fieldLink RX7 102 "BarberJars$Times" "present" "LBarberJars$Moment;" : Cond) ∈ wt := in_wt 205 (by decide +kernel) (by decide +kernel)
theorem mw_206 : (.fieldLink RX5 18 "BarberJars$Times" "past" "[LBarberJars$Moment;" : Cond) ∈ wt := in_wt 206 (by decide +kernel) (by decide +kernel)
theorem mw_207 : (.fieldLink RX5 26 "BarberJars$Times" "known" "I" : Cond) ∈ wt := in_wt 207 (by decide +kernel) (by decide +kernel)
theorem mw_208 : (.fieldLink RX7 160 "BarberJars$Times" "known" "I" : Cond) ∈ wt := in_wt 208 (by decide +kernel) (by decide +kernel)
theorem mw_217 : (.classLink RX7 36 RX0 : Cond) ∈ wt := in_wt 217 (by decide +kernel) (by decide +kernel)
theorem mw_218 : (.instantiable RX0 5 : Cond) ∈ wt := in_wt 218 (by decide +kernel) (by decide +kernel)
theorem mw_220 : (.instanceMethod yX0_init : Cond) ∈ wt := in_wt 220 (by decide +kernel) (by decide +kernel)
set_option maxRecDepth 100000 in
theorem mw_221 : (.code yX0_init prog_2_method_1_code 1 (Option.none : Option Jvm.ClassFile.FieldType) : Cond) ∈ wt := in_wt 221 rfl rfl
theorem mw_222 : (.methodLink RX0 3 Lib.objectInit : Cond) ∈ wt := in_wt 222 (by decide +kernel) (by decide +kernel)
theorem mw_223 : (.fieldLink RX0 9 "BarberJars$Clues" "seen" "[I" : Cond) ∈ wt := in_wt 223 (by decide +kernel) (by decide +kernel)
theorem mw_224 : (.fieldLink RX7 218 "BarberJars$Clues" "seen" "[I" : Cond) ∈ wt := in_wt 224 (by decide +kernel) (by decide +kernel)
theorem mw_225 : (.fieldLink RX0 15 "BarberJars$Clues" "heardThoughts" "[I" : Cond) ∈ wt := in_wt 225 (by decide +kernel) (by decide +kernel)
theorem mw_226 : (.fieldLink RX7 230 "BarberJars$Clues" "heardThoughts" "[I" : Cond) ∈ wt := in_wt 226 (by decide +kernel) (by decide +kernel)
theorem mw_227 : (.fieldLink RX0 18 "BarberJars$Clues" "heardLayers" "[I" : Cond) ∈ wt := in_wt 227 (by decide +kernel) (by decide +kernel)
theorem mw_228 : (.fieldLink RX7 233 "BarberJars$Clues" "heardLayers" "[I" : Cond) ∈ wt := in_wt 228 (by decide +kernel) (by decide +kernel)
theorem mw_229 : (.fieldLink RX0 21 "BarberJars$Clues" "seenSize" "I" : Cond) ∈ wt := in_wt 229 (by decide +kernel) (by decide +kernel)
theorem mw_230 : (.fieldLink RX7 215 "BarberJars$Clues" "seenSize" "I" : Cond) ∈ wt := in_wt 230 (by decide +kernel) (by decide +kernel)
theorem mw_231 : (.fieldLink RX0 25 "BarberJars$Clues" "heardSize" "I" : Cond) ∈ wt := in_wt 231 (by decide +kernel) (by decide +kernel)
theorem mw_232 : (.fieldLink RX7 227 "BarberJars$Clues" "heardSize" "I" : Cond) ∈ wt := in_wt 232 (by decide +kernel) (by decide +kernel)
theorem mw_244 : (.arrayClass Jvm.ClassFile.FieldType.boolean : Cond) ∈ wt := in_wt 244 (by decide +kernel) (by decide +kernel)
theorem mw_245 : (.classLink RX7 43 RX3 : Cond) ∈ wt := in_wt 245 (by decide +kernel) (by decide +kernel)
theorem mw_246 : (.instantiable RX3 8 : Cond) ∈ wt := in_wt 246 (by decide +kernel) (by decide +kernel)
theorem mw_248 : (.instanceMethod yX3_init : Cond) ∈ wt := in_wt 248 (by decide +kernel) (by decide +kernel)
set_option maxRecDepth 100000 in
theorem mw_249 : (.code yX3_init prog_5_method_1_code 1 (Option.none : Option Jvm.ClassFile.FieldType) : Cond) ∈ wt := in_wt 249 rfl rfl
theorem mw_250 : (.methodLink RX3 3 Lib.objectInit : Cond) ∈ wt := in_wt 250 (by decide +kernel) (by decide +kernel)
theorem mw_251 : (.fieldLink RX3 9 "BarberJars$Strand" "counts" "[I" : Cond) ∈ wt := in_wt 251 (by decide +kernel) (by decide +kernel)
theorem mw_252 : (.fieldLink RX3 15 "BarberJars$Strand" "coming" "[I" : Cond) ∈ wt := in_wt 252 (by decide +kernel) (by decide +kernel)
theorem mw_253 : (.fieldLink RX3 18 "BarberJars$Strand" "thoughts" "[I" : Cond) ∈ wt := in_wt 253 (by decide +kernel) (by decide +kernel)
theorem mw_254 : (.fieldLink RX3 21 "BarberJars$Strand" "fewest" "[I" : Cond) ∈ wt := in_wt 254 (by decide +kernel) (by decide +kernel)
theorem mw_255 : (.fieldLink RX3 24 "BarberJars$Strand" "later" "[I" : Cond) ∈ wt := in_wt 255 (by decide +kernel) (by decide +kernel)
theorem mw_256 : (.fieldLink RX3 39 "BarberJars$Strand" "hairSize" "I" : Cond) ∈ wt := in_wt 256 (by decide +kernel) (by decide +kernel)
theorem mw_257 : (.fieldLink RX3 42 "BarberJars$Strand" "wholeSize" "I" : Cond) ∈ wt := in_wt 257 (by decide +kernel) (by decide +kernel)
theorem mw_258 : (.fieldLink RX3 33 "BarberJars$Strand" "longest" "I" : Cond) ∈ wt := in_wt 258 (by decide +kernel) (by decide +kernel)
theorem mw_276 : (.classLink RX7 50 RX6 : Cond) ∈ wt := in_wt 276 (by decide +kernel) (by decide +kernel)
theorem mw_278 : (.fieldLink RX7 20 "BarberJars" "text" "LBarberJars$Text;" : Cond) ∈ wt := in_wt 278 (by decide +kernel) (by decide +kernel)
theorem mw_279 : (.fieldLink RX7 10 "BarberJars" "reader" "LBarberJars$Reader;" : Cond) ∈ wt := in_wt 279 (by decide +kernel) (by decide +kernel)
theorem mw_280 : (.fieldLink RX7 24 "BarberJars" "times" "LBarberJars$Times;" : Cond) ∈ wt := in_wt 280 (by decide +kernel) (by decide +kernel)
theorem mw_281 : (.fieldLink RX7 28 "BarberJars" "images" "[LBarberJars$Times;" : Cond) ∈ wt := in_wt 281 (by decide +kernel) (by decide +kernel)
theorem mw_282 : (.fieldLink RX7 32 "BarberJars" "kept" "[Z" : Cond) ∈ wt := in_wt 282 (by decide +kernel) (by decide +kernel)
theorem mw_283 : (.fieldLink RX7 39 "BarberJars" "clues" "LBarberJars$Clues;" : Cond) ∈ wt := in_wt 283 (by decide +kernel) (by decide +kernel)
theorem mw_284 : (.fieldLink RX7 46 "BarberJars" "strand" "LBarberJars$Strand;" : Cond) ∈ wt := in_wt 284 (by decide +kernel) (by decide +kernel)
theorem mw_285 : (.fieldLink RX7 53 "BarberJars" "town" "LBarberJars$Town;" : Cond) ∈ wt := in_wt 285 (by decide +kernel) (by decide +kernel)
theorem mw_286 : (.fieldLink RX7 57 "BarberJars" "places" "[I" : Cond) ∈ wt := in_wt 286 (by decide +kernel) (by decide +kernel)
theorem mw_287 : (.fieldLink RX7 61 "BarberJars" "shares" "[I" : Cond) ∈ wt := in_wt 287 (by decide +kernel) (by decide +kernel)
theorem mw_288 : (.fieldLink RX7 267 "BarberJars" "traced" "J" : Cond) ∈ wt := in_wt 288 (by decide +kernel) (by decide +kernel)
theorem mw_312 : (.methodLink RL 13 yX7_type : Cond) ∈ wt := in_wt 312 (by decide +kernel) (by decide +kernel)
theorem mw_313 : (.instanceMethod yX7_type : Cond) ∈ wt := in_wt 313 (by decide +kernel) (by decide +kernel)
theorem mw_314 : (.selects RX7 yX7_type yX7_type : Cond) ∈ wt := in_wt 314 (by decide +kernel) (by decide +kernel)
set_option maxRecDepth 100000 in
theorem mw_315 : (.code yX7_type prog_1_method_2_code 2 (Option.some Jvm.ClassFile.FieldType.int) : Cond) ∈ wt := in_wt 315 rfl rfl
theorem mw_316 : (.methodLink RX7 64 yX7_within : Cond) ∈ wt := in_wt 316 (by decide +kernel) (by decide +kernel)
theorem mw_317 : (.static yX7_within : Cond) ∈ wt := in_wt 317 (by decide +kernel) (by decide +kernel)
set_option maxRecDepth 100000 in
theorem mw_318 : (.code yX7_within prog_1_method_31_code 3 (Option.some Jvm.ClassFile.FieldType.boolean) : Cond) ∈ wt := in_wt 318 rfl rfl
theorem mw_319 : (.methodLink RL 18 yX7_clear : Cond) ∈ wt := in_wt 319 (by decide +kernel) (by decide +kernel)
theorem mw_320 : (.instanceMethod yX7_clear : Cond) ∈ wt := in_wt 320 (by decide +kernel) (by decide +kernel)
theorem mw_321 : (.selects RX7 yX7_clear yX7_clear : Cond) ∈ wt := in_wt 321 (by decide +kernel) (by decide +kernel)
set_option maxRecDepth 100000 in
theorem mw_322 : (.code yX7_clear prog_1_method_3_code 2 (Option.some Jvm.ClassFile.FieldType.int) : Cond) ∈ wt := in_wt 322 rfl rfl
theorem mw_323 : (.methodLink RL 23 yX7_shop : Cond) ∈ wt := in_wt 323 (by decide +kernel) (by decide +kernel)
theorem mw_324 : (.instanceMethod yX7_shop : Cond) ∈ wt := in_wt 324 (by decide +kernel) (by decide +kernel)
theorem mw_325 : (.selects RX7 yX7_shop yX7_shop : Cond) ∈ wt := in_wt 325 (by decide +kernel) (by decide +kernel)
set_option maxRecDepth 100000 in
theorem mw_326 : (.code yX7_shop prog_1_method_4_code 3 (Option.some Jvm.ClassFile.FieldType.int) : Cond) ∈ wt := in_wt 326 rfl rfl
theorem mw_327 : (.methodLink RX7 77 yX2_tellAll : Cond) ∈ wt := in_wt 327 (by decide +kernel) (by decide +kernel)
theorem mw_328 : (.instanceMethod yX2_tellAll : Cond) ∈ wt := in_wt 328 (by decide +kernel) (by decide +kernel)
theorem mw_329 : (.selects RX2 yX2_tellAll yX2_tellAll : Cond) ∈ wt := in_wt 329 (by decide +kernel) (by decide +kernel)
set_option maxRecDepth 100000 in
theorem mw_330 : (.code yX2_tellAll prog_4_method_2_code 2 (Option.some Jvm.ClassFile.FieldType.int) : Cond) ∈ wt := in_wt 330 rfl rfl
theorem mw_331 : (.methodLink RX2 25 yX6_begin : Cond) ∈ wt := in_wt 331 (by decide +kernel) (by decide +kernel)
theorem mw_332 : (.instanceMethod yX6_begin : Cond) ∈ wt := in_wt 332 (by decide +kernel) (by decide +kernel)
theorem mw_333 : (.selects RX6 yX6_begin yX6_begin : Cond) ∈ wt := in_wt 333 (by decide +kernel) (by decide +kernel)
set_option maxRecDepth 100000 in
theorem mw_334 : (.code yX6_begin prog_8_method_2_code 1 (Option.none : Option Jvm.ClassFile.FieldType) : Cond) ∈ wt := in_wt 334 rfl rfl
theorem mw_335 : (.methodLink RX2 39 yX2_advance : Cond) ∈ wt := in_wt 335 (by decide +kernel) (by decide +kernel)
theorem mw_337 : (.instanceMethod yX2_advance : Cond) ∈ wt := in_wt 337 (by decide +kernel) (by decide +kernel)
set_option maxRecDepth 100000 in
theorem mw_338 : (.code yX2_advance prog_4_method_9_code 1 (Option.none : Option Jvm.ClassFile.FieldType) : Cond) ∈ wt := in_wt 338 rfl rfl
theorem mw_339 : (.methodLink RX2 101 yX2_isSmallLetter : Cond) ∈ wt := in_wt 339 (by decide +kernel) (by decide +kernel)
theorem mw_340 : (.static yX2_isSmallLetter : Cond) ∈ wt := in_wt 340 (by decide +kernel) (by decide +kernel)
set_option maxRecDepth 100000 in
theorem mw_341 : (.code yX2_isSmallLetter prog_4_method_12_code 1 (Option.some Jvm.ClassFile.FieldType.boolean) : Cond) ∈ wt := in_wt 341 rfl rfl
theorem mw_342 : (.methodLink RX2 104 yX2_scanLetters : Cond) ∈ wt := in_wt 342 (by decide +kernel) (by decide +kernel)
theorem mw_344 : (.instanceMethod yX2_scanLetters : Cond) ∈ wt := in_wt 344 (by decide +kernel) (by decide +kernel)
set_option maxRecDepth 100000 in
theorem mw_345 : (.code yX2_scanLetters prog_4_method_10_code 1 (Option.none : Option Jvm.ClassFile.FieldType) : Cond) ∈ wt := in_wt 345 rfl rfl
theorem mw_346 : (.methodLink RX2 107 yX2_isDigit : Cond) ∈ wt := in_wt 346 (by decide +kernel) (by decide +kernel)
theorem mw_347 : (.static yX2_isDigit : Cond) ∈ wt := in_wt 347 (by decide +kernel) (by decide +kernel)
set_option maxRecDepth 100000 in
theorem mw_348 : (.code yX2_isDigit prog_4_method_13_code 1 (Option.some Jvm.ClassFile.FieldType.boolean) : Cond) ∈ wt := in_wt 348 rfl rfl
theorem mw_349 : (.methodLink RX2 110 yX2_scanNumber : Cond) ∈ wt := in_wt 349 (by decide +kernel) (by decide +kernel)
theorem mw_351 : (.instanceMethod yX2_scanNumber : Cond) ∈ wt := in_wt 351 (by decide +kernel) (by decide +kernel)
set_option maxRecDepth 100000 in
theorem mw_352 : (.code yX2_scanNumber prog_4_method_11_code 2 (Option.none : Option Jvm.ClassFile.FieldType) : Cond) ∈ wt := in_wt 352 rfl rfl
theorem mw_353 : (.methodLink RX2 113 yJ9_min_7cf53 : Cond) ∈ wt := in_wt 353 (by decide +kernel) (by decide +kernel)
theorem mw_354 : (.static yJ9_min_7cf53 : Cond) ∈ wt := in_wt 354 (by decide +kernel) (by decide +kernel)
set_option maxRecDepth 100000 in
theorem mw_355 : (.code yJ9_min_7cf53 prog_12_method_69_code 2 (Option.some Jvm.ClassFile.FieldType.int) : Cond) ∈ wt := in_wt 355 rfl rfl
theorem mw_356 : (.methodLink RX2 45 yX2_tellItem : Cond) ∈ wt := in_wt 356 (by decide +kernel) (by decide +kernel)
theorem mw_358 : (.instanceMethod yX2_tellItem : Cond) ∈ wt := in_wt 358 (by decide +kernel) (by decide +kernel)
set_option maxRecDepth 100000 in
theorem mw_359 : (.code yX2_tellItem prog_4_method_3_code 2 (Option.some Jvm.ClassFile.FieldType.boolean) : Cond) ∈ wt := in_wt 359 rfl rfl
theorem mw_360 : (.methodLink RX2 55 yX2_mayBegin : Cond) ∈ wt := in_wt 360 (by decide +kernel) (by decide +kernel)
theorem mw_362 : (.instanceMethod yX2_mayBegin : Cond) ∈ wt := in_wt 362 (by decide +kernel) (by decide +kernel)
set_option maxRecDepth 100000 in
theorem mw_363 : (.code yX2_mayBegin prog_4_method_4_code 2 (Option.some Jvm.ClassFile.FieldType.boolean) : Cond) ∈ wt := in_wt 363 rfl rfl
theorem mw_364 : (.methodLink RX2 62 yX2_tellOne : Cond) ∈ wt := in_wt 364 (by decide +kernel) (by decide +kernel)
theorem mw_366 : (.instanceMethod yX2_tellOne : Cond) ∈ wt := in_wt 366 (by decide +kernel) (by decide +kernel)
set_option maxRecDepth 100000 in
theorem mw_367 : (.code yX2_tellOne prog_4_method_5_code 3 (Option.some Jvm.ClassFile.FieldType.boolean) : Cond) ∈ wt := in_wt 367 rfl rfl
theorem mw_368 : (.methodLink RX2 71 yX2_isNumber : Cond) ∈ wt := in_wt 368 (by decide +kernel) (by decide +kernel)
theorem mw_370 : (.instanceMethod yX2_isNumber : Cond) ∈ wt := in_wt 370 (by decide +kernel) (by decide +kernel)
set_option maxRecDepth 100000 in
theorem mw_371 : (.code yX2_isNumber prog_4_method_8_code 3 (Option.some Jvm.ClassFile.FieldType.boolean) : Cond) ∈ wt := in_wt 371 rfl rfl
theorem mw_373 : (.methodLink RX2 65 yX2_tellLongest : Cond) ∈ wt := in_wt 373 (by decide +kernel) (by decide +kernel)
theorem mw_375 : (.instanceMethod yX2_tellLongest : Cond) ∈ wt := in_wt 375 (by decide +kernel) (by decide +kernel)
set_option maxRecDepth 100000 in
theorem mw_376 : (.code yX2_tellLongest prog_4_method_6_code 1 (Option.some Jvm.ClassFile.FieldType.boolean) : Cond) ∈ wt := in_wt 376 rfl rfl
theorem mw_377 : (.methodLink RX2 68 yX2_tellChair : Cond) ∈ wt := in_wt 377 (by decide +kernel) (by decide +kernel)
theorem mw_379 : (.instanceMethod yX2_tellChair : Cond) ∈ wt := in_wt 379 (by decide +kernel) (by decide +kernel)
set_option maxRecDepth 100000 in
theorem mw_380 : (.code yX2_tellChair prog_4_method_7_code 1 (Option.some Jvm.ClassFile.FieldType.boolean) : Cond) ∈ wt := in_wt 380 rfl rfl
theorem mw_381 : (.methodLink RX7 84 yX6_copyFrom : Cond) ∈ wt := in_wt 381 (by decide +kernel) (by decide +kernel)
theorem mw_382 : (.instanceMethod yX6_copyFrom : Cond) ∈ wt := in_wt 382 (by decide +kernel) (by decide +kernel)
theorem mw_383 : (.selects RX6 yX6_copyFrom yX6_copyFrom : Cond) ∈ wt := in_wt 383 (by decide +kernel) (by decide +kernel)
set_option maxRecDepth 100000 in
theorem mw_384 : (.code yX6_copyFrom prog_8_method_3_code 2 (Option.none : Option Jvm.ClassFile.FieldType) : Cond) ∈ wt := in_wt 384 rfl rfl
theorem mw_385 : (.methodLink RX6 31 ⟨"java/lang/System", "arraycopy", "(Ljava/lang/Object;ILjava/lang/Object;II)V"⟩ : Cond) ∈ wt := in_wt 385 (by decide +kernel) (by decide +kernel)
theorem mw_386 : (.static ⟨"java/lang/System", "arraycopy", "(Ljava/lang/Object;ILjava/lang/Object;II)V"⟩ : Cond) ∈ wt := in_wt 386 (by decide +kernel) (by decide +kernel)
theorem mw_387 : (.native ⟨"java/lang/System", "arraycopy", "(Ljava/lang/Object;ILjava/lang/Object;II)V"⟩ : Cond) ∈ wt := in_wt 387 (by decide +kernel) (by decide +kernel)
theorem mw_388 : (.methodLink RX7 91 yX5_begin : Cond) ∈ wt := in_wt 388 (by decide +kernel) (by decide +kernel)
theorem mw_389 : (.instanceMethod yX5_begin : Cond) ∈ wt := in_wt 389 (by decide +kernel) (by decide +kernel)
theorem mw_390 : (.selects RX5 yX5_begin yX5_begin : Cond) ∈ wt := in_wt 390 (by decide +kernel) (by decide +kernel)
set_option maxRecDepth 100000 in
theorem mw_391 : (.code yX5_begin prog_7_method_2_code 2 (Option.none : Option Jvm.ClassFile.FieldType) : Cond) ∈ wt := in_wt 391 rfl rfl
theorem mw_392 : (.methodLink RX5 22 yX1_begin : Cond) ∈ wt := in_wt 392 (by decide +kernel) (by decide +kernel)
theorem mw_393 : (.instanceMethod yX1_begin : Cond) ∈ wt := in_wt 393 (by decide +kernel) (by decide +kernel)
theorem mw_394 : (.selects RX1 yX1_begin yX1_begin : Cond) ∈ wt := in_wt 394 (by decide +kernel) (by decide +kernel)
set_option maxRecDepth 100000 in
theorem mw_395 : (.code yX1_begin prog_3_method_2_code 2 (Option.none : Option Jvm.ClassFile.FieldType) : Cond) ∈ wt := in_wt 395 rfl rfl
theorem mw_396 : (.methodLink RX7 95 yX0_drop : Cond) ∈ wt := in_wt 396 (by decide +kernel) (by decide +kernel)
theorem mw_397 : (.instanceMethod yX0_drop : Cond) ∈ wt := in_wt 397 (by decide +kernel) (by decide +kernel)
theorem mw_398 : (.selects RX0 yX0_drop yX0_drop : Cond) ∈ wt := in_wt 398 (by decide +kernel) (by decide +kernel)
set_option maxRecDepth 100000 in
theorem mw_399 : (.code yX0_drop prog_2_method_2_code 1 (Option.none : Option Jvm.ClassFile.FieldType) : Cond) ∈ wt := in_wt 399 rfl rfl
theorem mw_400 : (.methodLink RL 27 yX7_one : Cond) ∈ wt := in_wt 400 (by decide +kernel) (by decide +kernel)
theorem mw_401 : (.instanceMethod yX7_one : Cond) ∈ wt := in_wt 401 (by decide +kernel) (by decide +kernel)
theorem mw_402 : (.selects RX7 yX7_one yX7_one : Cond) ∈ wt := in_wt 402 (by decide +kernel) (by decide +kernel)
set_option maxRecDepth 100000 in
theorem mw_403 : (.code yX7_one prog_1_method_5_code 4 (Option.some Jvm.ClassFile.FieldType.int) : Cond) ∈ wt := in_wt 403 rfl rfl
theorem mw_404 : (.methodLink RX7 98 yX7_isOne : Cond) ∈ wt := in_wt 404 (by decide +kernel) (by decide +kernel)
theorem mw_406 : (.instanceMethod yX7_isOne : Cond) ∈ wt := in_wt 406 (by decide +kernel) (by decide +kernel)
set_option maxRecDepth 100000 in
theorem mw_407 : (.code yX7_isOne prog_1_method_34_code 2 (Option.some Jvm.ClassFile.FieldType.boolean) : Cond) ∈ wt := in_wt 407 rfl rfl
theorem mw_408 : (.methodLink RX7 120 yX1_layersOf : Cond) ∈ wt := in_wt 408 (by decide +kernel) (by decide +kernel)
theorem mw_409 : (.instanceMethod yX1_layersOf : Cond) ∈ wt := in_wt 409 (by decide +kernel) (by decide +kernel)
theorem mw_410 : (.selects RX1 yX1_layersOf yX1_layersOf : Cond) ∈ wt := in_wt 410 (by decide +kernel) (by decide +kernel)
set_option maxRecDepth 100000 in
theorem mw_411 : (.code yX1_layersOf prog_3_method_11_code 5 (Option.some Jvm.ClassFile.FieldType.int) : Cond) ∈ wt := in_wt 411 rfl rfl
theorem mw_412 : (.methodLink RX1 63 yX1_layerAt : Cond) ∈ wt := in_wt 412 (by decide +kernel) (by decide +kernel)
theorem mw_413 : (.instanceMethod yX1_layerAt : Cond) ∈ wt := in_wt 413 (by decide +kernel) (by decide +kernel)
theorem mw_414 : (.selects RX1 yX1_layerAt yX1_layerAt : Cond) ∈ wt := in_wt 414 (by decide +kernel) (by decide +kernel)
set_option maxRecDepth 100000 in
theorem mw_415 : (.code yX1_layerAt prog_3_method_4_code 3 (Option.some Jvm.ClassFile.FieldType.int) : Cond) ∈ wt := in_wt 415 rfl rfl
theorem mw_416 : (.methodLink RL 32 yX7_week : Cond) ∈ wt := in_wt 416 (by decide +kernel) (by decide +kernel)
theorem mw_417 : (.instanceMethod yX7_week : Cond) ∈ wt := in_wt 417 (by decide +kernel) (by decide +kernel)
theorem mw_418 : (.selects RX7 yX7_week yX7_week : Cond) ∈ wt := in_wt 418 (by decide +kernel) (by decide +kernel)
set_option maxRecDepth 100000 in
theorem mw_419 : (.code yX7_week prog_1_method_6_code 3 (Option.some Jvm.ClassFile.FieldType.int) : Cond) ∈ wt := in_wt 419 rfl rfl
theorem mw_420 : (.methodLink RL 36 yX7_layer : Cond) ∈ wt := in_wt 420 (by decide +kernel) (by decide +kernel)
theorem mw_421 : (.instanceMethod yX7_layer : Cond) ∈ wt := in_wt 421 (by decide +kernel) (by decide +kernel)
theorem mw_422 : (.selects RX7 yX7_layer yX7_layer : Cond) ∈ wt := in_wt 422 (by decide +kernel) (by decide +kernel)
set_option maxRecDepth 100000 in
theorem mw_423 : (.code yX7_layer prog_1_method_7_code 3 (Option.some Jvm.ClassFile.FieldType.int) : Cond) ∈ wt := in_wt 423 rfl rfl
theorem mw_424 : (.methodLink RX7 127 yX1_layerAt : Cond) ∈ wt := in_wt 424 (by decide +kernel) (by decide +kernel)
theorem mw_425 : (.methodLink RL 40 yX7_jar : Cond) ∈ wt := in_wt 425 (by decide +kernel) (by decide +kernel)
theorem mw_426 : (.instanceMethod yX7_jar : Cond) ∈ wt := in_wt 426 (by decide +kernel) (by decide +kernel)
theorem mw_427 : (.selects RX7 yX7_jar yX7_jar : Cond) ∈ wt := in_wt 427 (by decide +kernel) (by decide +kernel)
set_option maxRecDepth 100000 in
theorem mw_428 : (.code yX7_jar prog_1_method_8_code 3 (Option.some Jvm.ClassFile.FieldType.int) : Cond) ∈ wt := in_wt 428 rfl rfl
theorem mw_429 : (.methodLink RX7 130 yX7_isJar : Cond) ∈ wt := in_wt 429 (by decide +kernel) (by decide +kernel)
theorem mw_430 : (.static yX7_isJar : Cond) ∈ wt := in_wt 430 (by decide +kernel) (by decide +kernel)
set_option maxRecDepth 100000 in
theorem mw_431 : (.code yX7_isJar prog_1_method_33_code 1 (Option.some Jvm.ClassFile.FieldType.boolean) : Cond) ∈ wt := in_wt 431 rfl rfl
theorem mw_432 : (.methodLink RX7 133 yX7_isThought : Cond) ∈ wt := in_wt 432 (by decide +kernel) (by decide +kernel)
theorem mw_433 : (.static yX7_isThought : Cond) ∈ wt := in_wt 433 (by decide +kernel) (by decide +kernel)
set_option maxRecDepth 100000 in
theorem mw_434 : (.code yX7_isThought prog_1_method_32_code 1 (Option.some Jvm.ClassFile.FieldType.boolean) : Cond) ∈ wt := in_wt 434 rfl rfl
theorem mw_435 : (.methodLink RX7 136 yX1_sweptOf : Cond) ∈ wt := in_wt 435 (by decide +kernel) (by decide +kernel)
theorem mw_436 : (.instanceMethod yX1_sweptOf : Cond) ∈ wt := in_wt 436 (by decide +kernel) (by decide +kernel)
theorem mw_437 : (.selects RX1 yX1_sweptOf yX1_sweptOf : Cond) ∈ wt := in_wt 437 (by decide +kernel) (by decide +kernel)
set_option maxRecDepth 100000 in
theorem mw_438 : (.code yX1_sweptOf prog_3_method_5_code 3 (Option.some Jvm.ClassFile.FieldType.int) : Cond) ∈ wt := in_wt 438 rfl rfl
theorem mw_439 : (.methodLink RL 44 yX7_days : Cond) ∈ wt := in_wt 439 (by decide +kernel) (by decide +kernel)
theorem mw_440 : (.instanceMethod yX7_days : Cond) ∈ wt := in_wt 440 (by decide +kernel) (by decide +kernel)
theorem mw_441 : (.selects RX7 yX7_days yX7_days : Cond) ∈ wt := in_wt 441 (by decide +kernel) (by decide +kernel)
set_option maxRecDepth 100000 in
theorem mw_442 : (.code yX7_days prog_1_method_9_code 3 (Option.some Jvm.ClassFile.FieldType.int) : Cond) ∈ wt := in_wt 442 rfl rfl
theorem mw_443 : (.methodLink RX7 142 yX5_remember : Cond) ∈ wt := in_wt 443 (by decide +kernel) (by decide +kernel)
theorem mw_444 : (.instanceMethod yX5_remember : Cond) ∈ wt := in_wt 444 (by decide +kernel) (by decide +kernel)
theorem mw_445 : (.selects RX5 yX5_remember yX5_remember : Cond) ∈ wt := in_wt 445 (by decide +kernel) (by decide +kernel)
set_option maxRecDepth 100000 in
theorem mw_446 : (.code yX5_remember prog_7_method_3_code 1 (Option.none : Option Jvm.ClassFile.FieldType) : Cond) ∈ wt := in_wt 446 rfl rfl
theorem mw_447 : (.methodLink RX5 30 yX5_loseOldest : Cond) ∈ wt := in_wt 447 (by decide +kernel) (by decide +kernel)
theorem mw_449 : (.instanceMethod yX5_loseOldest : Cond) ∈ wt := in_wt 449 (by decide +kernel) (by decide +kernel)
set_option maxRecDepth 100000 in
theorem mw_450 : (.code yX5_loseOldest prog_7_method_4_code 3 (Option.none : Option Jvm.ClassFile.FieldType) : Cond) ∈ wt := in_wt 450 rfl rfl
theorem mw_451 : (.methodLink RX5 33 yX1_copyFrom : Cond) ∈ wt := in_wt 451 (by decide +kernel) (by decide +kernel)
theorem mw_452 : (.instanceMethod yX1_copyFrom : Cond) ∈ wt := in_wt 452 (by decide +kernel) (by decide +kernel)
theorem mw_453 : (.selects RX1 yX1_copyFrom yX1_copyFrom : Cond) ∈ wt := in_wt 453 (by decide +kernel) (by decide +kernel)
set_option maxRecDepth 100000 in
theorem mw_454 : (.code yX1_copyFrom prog_3_method_3_code 2 (Option.none : Option Jvm.ClassFile.FieldType) : Cond) ∈ wt := in_wt 454 rfl rfl
theorem mw_455 : (.methodLink RX1 37 ⟨"java/lang/System", "arraycopy", "(Ljava/lang/Object;ILjava/lang/Object;II)V"⟩ : Cond) ∈ wt := in_wt 455 (by decide +kernel) (by decide +kernel)
theorem mw_456 : (.methodLink RX7 145 yX1_passDay : Cond) ∈ wt := in_wt 456 (by decide +kernel) (by decide +kernel)
theorem mw_457 : (.instanceMethod yX1_passDay : Cond) ∈ wt := in_wt 457 (by decide +kernel) (by decide +kernel)
theorem mw_458 : (.selects RX1 yX1_passDay yX1_passDay : Cond) ∈ wt := in_wt 458 (by decide +kernel) (by decide +kernel)
set_option maxRecDepth 100000 in
theorem mw_459 : (.code yX1_passDay prog_3_method_7_code 4 (Option.none : Option Jvm.ClassFile.FieldType) : Cond) ∈ wt := in_wt 459 rfl rfl
theorem mw_460 : (.methodLink RX1 52 yX1_thoughtAhead : Cond) ∈ wt := in_wt 460 (by decide +kernel) (by decide +kernel)
theorem mw_461 : (.instanceMethod yX1_thoughtAhead : Cond) ∈ wt := in_wt 461 (by decide +kernel) (by decide +kernel)
theorem mw_462 : (.selects RX1 yX1_thoughtAhead yX1_thoughtAhead : Cond) ∈ wt := in_wt 462 (by decide +kernel) (by decide +kernel)
set_option maxRecDepth 100000 in
theorem mw_463 : (.code yX1_thoughtAhead prog_3_method_6_code 4 (Option.some Jvm.ClassFile.FieldType.int) : Cond) ∈ wt := in_wt 463 rfl rfl
theorem mw_464 : (.methodLink RX1 43 yX6_usualThought : Cond) ∈ wt := in_wt 464 (by decide +kernel) (by decide +kernel)
theorem mw_465 : (.instanceMethod yX6_usualThought : Cond) ∈ wt := in_wt 465 (by decide +kernel) (by decide +kernel)
theorem mw_466 : (.selects RX6 yX6_usualThought yX6_usualThought : Cond) ∈ wt := in_wt 466 (by decide +kernel) (by decide +kernel)
set_option maxRecDepth 100000 in
theorem mw_467 : (.code yX6_usualThought prog_8_method_4_code 4 (Option.some Jvm.ClassFile.FieldType.int) : Cond) ∈ wt := in_wt 467 rfl rfl
theorem mw_468 : (.methodLink RX1 59 yX1_dropTips : Cond) ∈ wt := in_wt 468 (by decide +kernel) (by decide +kernel)
theorem mw_470 : (.instanceMethod yX1_dropTips : Cond) ∈ wt := in_wt 470 (by decide +kernel) (by decide +kernel)
set_option maxRecDepth 100000 in
theorem mw_471 : (.code yX1_dropTips prog_3_method_9_code 5 (Option.none : Option Jvm.ClassFile.FieldType) : Cond) ∈ wt := in_wt 471 rfl rfl
theorem mw_472 : (.methodLink RL 48 yX7_minds : Cond) ∈ wt := in_wt 472 (by decide +kernel) (by decide +kernel)
theorem mw_473 : (.instanceMethod yX7_minds : Cond) ∈ wt := in_wt 473 (by decide +kernel) (by decide +kernel)
