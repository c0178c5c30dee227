theorem mw_919 : (.instanceMethod yX8_minds : Cond) ∈ wt := in_wt 919 (by decide +kernel) (by decide +kernel)
theorem mw_920 : (.selects RX8 yX8_minds yX8_minds : Cond) ∈ wt := in_wt 920 (by decide +kernel) (by decide +kernel)
set_option maxRecDepth 100000 in
theorem mw_921 : (.code yX8_minds prog_10_method_33_code 4 (Option.some Jvm.ClassFile.FieldType.int) : Cond) ∈ wt := in_wt 921 rfl rfl
theorem mw_922 : (.methodLink RL 55 yX8_cuts : Cond) ∈ wt := in_wt 922 (by decide +kernel) (by decide +kernel)
theorem mw_923 : (.instanceMethod yX8_cuts : Cond) ∈ wt := in_wt 923 (by decide +kernel) (by decide +kernel)
theorem mw_924 : (.selects RX8 yX8_cuts yX8_cuts : Cond) ∈ wt := in_wt 924 (by decide +kernel) (by decide +kernel)
set_option maxRecDepth 100000 in
theorem mw_925 : (.code yX8_cuts prog_10_method_34_code 5 (Option.some Jvm.ClassFile.FieldType.int) : Cond) ∈ wt := in_wt 925 rfl rfl
theorem mw_926 : (.methodLink RL 59 yX8_changes : Cond) ∈ wt := in_wt 926 (by decide +kernel) (by decide +kernel)
theorem mw_927 : (.instanceMethod yX8_changes : Cond) ∈ wt := in_wt 927 (by decide +kernel) (by decide +kernel)
theorem mw_928 : (.selects RX8 yX8_changes yX8_changes : Cond) ∈ wt := in_wt 928 (by decide +kernel) (by decide +kernel)
set_option maxRecDepth 100000 in
theorem mw_929 : (.code yX8_changes prog_10_method_35_code 3 (Option.some Jvm.ClassFile.FieldType.int) : Cond) ∈ wt := in_wt 929 rfl rfl
theorem mw_930 : (.methodLink RL 63 yX8_empties : Cond) ∈ wt := in_wt 930 (by decide +kernel) (by decide +kernel)
theorem mw_931 : (.instanceMethod yX8_empties : Cond) ∈ wt := in_wt 931 (by decide +kernel) (by decide +kernel)
theorem mw_932 : (.selects RX8 yX8_empties yX8_empties : Cond) ∈ wt := in_wt 932 (by decide +kernel) (by decide +kernel)
set_option maxRecDepth 100000 in
theorem mw_933 : (.code yX8_empties prog_10_method_36_code 4 (Option.some Jvm.ClassFile.FieldType.int) : Cond) ∈ wt := in_wt 933 rfl rfl
theorem mw_934 : (.methodLink RX8 160 yX8_inJar : Cond) ∈ wt := in_wt 934 (by decide +kernel) (by decide +kernel)
theorem mw_936 : (.instanceMethod yX8_inJar : Cond) ∈ wt := in_wt 936 (by decide +kernel) (by decide +kernel)
set_option maxRecDepth 100000 in
theorem mw_937 : (.code yX8_inJar prog_10_method_23_code 4 (Option.some Jvm.ClassFile.FieldType.int) : Cond) ∈ wt := in_wt 937 rfl rfl
theorem mw_938 : (.methodLink RL 67 yX8_undo : Cond) ∈ wt := in_wt 938 (by decide +kernel) (by decide +kernel)
theorem mw_939 : (.instanceMethod yX8_undo : Cond) ∈ wt := in_wt 939 (by decide +kernel) (by decide +kernel)
theorem mw_940 : (.selects RX8 yX8_undo yX8_undo : Cond) ∈ wt := in_wt 940 (by decide +kernel) (by decide +kernel)
set_option maxRecDepth 100000 in
theorem mw_941 : (.code yX8_undo prog_10_method_37_code 3 (Option.some Jvm.ClassFile.FieldType.int) : Cond) ∈ wt := in_wt 941 rfl rfl
theorem mw_942 : (.methodLink RL 71 yX8_now : Cond) ∈ wt := in_wt 942 (by decide +kernel) (by decide +kernel)
theorem mw_943 : (.instanceMethod yX8_now : Cond) ∈ wt := in_wt 943 (by decide +kernel) (by decide +kernel)
theorem mw_944 : (.selects RX8 yX8_now yX8_now : Cond) ∈ wt := in_wt 944 (by decide +kernel) (by decide +kernel)
set_option maxRecDepth 100000 in
theorem mw_945 : (.code yX8_now prog_10_method_38_code 5 (Option.some Jvm.ClassFile.FieldType.int) : Cond) ∈ wt := in_wt 945 rfl rfl
theorem mw_946 : (.methodLink RL 75 yX8_reads : Cond) ∈ wt := in_wt 946 (by decide +kernel) (by decide +kernel)
theorem mw_947 : (.instanceMethod yX8_reads : Cond) ∈ wt := in_wt 947 (by decide +kernel) (by decide +kernel)
theorem mw_948 : (.selects RX8 yX8_reads yX8_reads : Cond) ∈ wt := in_wt 948 (by decide +kernel) (by decide +kernel)
set_option maxRecDepth 100000 in
theorem mw_949 : (.code yX8_reads prog_10_method_39_code 7 (Option.some Jvm.ClassFile.FieldType.int) : Cond) ∈ wt := in_wt 949 rfl rfl
theorem mw_950 : (.methodLink RL 80 yX8_plan : Cond) ∈ wt := in_wt 950 (by decide +kernel) (by decide +kernel)
theorem mw_951 : (.instanceMethod yX8_plan : Cond) ∈ wt := in_wt 951 (by decide +kernel) (by decide +kernel)
theorem mw_952 : (.selects RX8 yX8_plan yX8_plan : Cond) ∈ wt := in_wt 952 (by decide +kernel) (by decide +kernel)
set_option maxRecDepth 100000 in
theorem mw_953 : (.code yX8_plan prog_10_method_42_code 7 (Option.some Jvm.ClassFile.FieldType.int) : Cond) ∈ wt := in_wt 953 rfl rfl
theorem mw_954 : (.methodLink RX8 169 yX8_asItIs : Cond) ∈ wt := in_wt 954 (by decide +kernel) (by decide +kernel)
theorem mw_956 : (.instanceMethod yX8_asItIs : Cond) ∈ wt := in_wt 956 (by decide +kernel) (by decide +kernel)
set_option maxRecDepth 100000 in
theorem mw_957 : (.code yX8_asItIs prog_10_method_40_code 3 (Option.none : Option Jvm.ClassFile.FieldType) : Cond) ∈ wt := in_wt 957 rfl rfl
theorem mw_958 : (.methodLink RX8 172 yX8_growsTried : Cond) ∈ wt := in_wt 958 (by decide +kernel) (by decide +kernel)
theorem mw_960 : (.instanceMethod yX8_growsTried : Cond) ∈ wt := in_wt 960 (by decide +kernel) (by decide +kernel)
set_option maxRecDepth 100000 in
theorem mw_961 : (.code yX8_growsTried prog_10_method_41_code 2 (Option.none : Option Jvm.ClassFile.FieldType) : Cond) ∈ wt := in_wt 961 rfl rfl
theorem mw_962 : (.methodLink RL 85 yX8_least : Cond) ∈ wt := in_wt 962 (by decide +kernel) (by decide +kernel)
theorem mw_963 : (.instanceMethod yX8_least : Cond) ∈ wt := in_wt 963 (by decide +kernel) (by decide +kernel)
theorem mw_964 : (.selects RX8 yX8_least yX8_least : Cond) ∈ wt := in_wt 964 (by decide +kernel) (by decide +kernel)
set_option maxRecDepth 100000 in
theorem mw_965 : (.code yX8_least prog_10_method_44_code 7 (Option.some Jvm.ClassFile.FieldType.int) : Cond) ∈ wt := in_wt 965 rfl rfl
theorem mw_966 : (.methodLink RX8 175 yX8_has : Cond) ∈ wt := in_wt 966 (by decide +kernel) (by decide +kernel)
theorem mw_967 : (.static yX8_has : Cond) ∈ wt := in_wt 967 (by decide +kernel) (by decide +kernel)
set_option maxRecDepth 100000 in
theorem mw_968 : (.code yX8_has prog_10_method_4_code 2 (Option.some Jvm.ClassFile.FieldType.boolean) : Cond) ∈ wt := in_wt 968 rfl rfl
theorem mw_969 : (.methodLink RX8 179 yX8_isMost : Cond) ∈ wt := in_wt 969 (by decide +kernel) (by decide +kernel)
theorem mw_971 : (.instanceMethod yX8_isMost : Cond) ∈ wt := in_wt 971 (by decide +kernel) (by decide +kernel)
set_option maxRecDepth 100000 in
theorem mw_972 : (.code yX8_isMost prog_10_method_43_code 7 (Option.some Jvm.ClassFile.FieldType.boolean) : Cond) ∈ wt := in_wt 972 rfl rfl
theorem mw_973 : (.methodLink RX8 182 yX8_bits : Cond) ∈ wt := in_wt 973 (by decide +kernel) (by decide +kernel)
theorem mw_974 : (.static yX8_bits : Cond) ∈ wt := in_wt 974 (by decide +kernel) (by decide +kernel)
set_option maxRecDepth 100000 in
theorem mw_975 : (.code yX8_bits prog_10_method_5_code 3 (Option.some Jvm.ClassFile.FieldType.int) : Cond) ∈ wt := in_wt 975 rfl rfl
theorem mw_976 : (.methodLink RL 89 yX8_wig : Cond) ∈ wt := in_wt 976 (by decide +kernel) (by decide +kernel)
theorem mw_977 : (.instanceMethod yX8_wig : Cond) ∈ wt := in_wt 977 (by decide +kernel) (by decide +kernel)
theorem mw_978 : (.selects RX8 yX8_wig yX8_wig : Cond) ∈ wt := in_wt 978 (by decide +kernel) (by decide +kernel)
set_option maxRecDepth 100000 in
theorem mw_979 : (.code yX8_wig prog_10_method_46_code 5 (Option.some Jvm.ClassFile.FieldType.int) : Cond) ∈ wt := in_wt 979 rfl rfl
theorem mw_980 : (.methodLink RX8 185 yX8_thoughtsOf : Cond) ∈ wt := in_wt 980 (by decide +kernel) (by decide +kernel)
theorem mw_982 : (.instanceMethod yX8_thoughtsOf : Cond) ∈ wt := in_wt 982 (by decide +kernel) (by decide +kernel)
set_option maxRecDepth 100000 in
theorem mw_983 : (.code yX8_thoughtsOf prog_10_method_45_code 5 (Option.some Jvm.ClassFile.FieldType.int) : Cond) ∈ wt := in_wt 983 rfl rfl
theorem mw_984 : (.methodLink RL 93 yX8_odds : Cond) ∈ wt := in_wt 984 (by decide +kernel) (by decide +kernel)
theorem mw_985 : (.instanceMethod yX8_odds : Cond) ∈ wt := in_wt 985 (by decide +kernel) (by decide +kernel)
theorem mw_986 : (.selects RX8 yX8_odds yX8_odds : Cond) ∈ wt := in_wt 986 (by decide +kernel) (by decide +kernel)
set_option maxRecDepth 100000 in
theorem mw_987 : (.code yX8_odds prog_10_method_48_code 10 (Option.some Jvm.ClassFile.FieldType.int) : Cond) ∈ wt := in_wt 987 rfl rfl
theorem mw_988 : (.methodLink RX8 188 yX8_lowest : Cond) ∈ wt := in_wt 988 (by decide +kernel) (by decide +kernel)
theorem mw_989 : (.static yX8_lowest : Cond) ∈ wt := in_wt 989 (by decide +kernel) (by decide +kernel)
set_option maxRecDepth 100000 in
theorem mw_990 : (.code yX8_lowest prog_10_method_47_code 6 (Option.some Jvm.ClassFile.FieldType.int) : Cond) ∈ wt := in_wt 990 rfl rfl
theorem mw_991 : (.methodLink RL 97 yX8_saw : Cond) ∈ wt := in_wt 991 (by decide +kernel) (by decide +kernel)
theorem mw_992 : (.instanceMethod yX8_saw : Cond) ∈ wt := in_wt 992 (by decide +kernel) (by decide +kernel)
theorem mw_993 : (.selects RX8 yX8_saw yX8_saw : Cond) ∈ wt := in_wt 993 (by decide +kernel) (by decide +kernel)
set_option maxRecDepth 100000 in
theorem mw_994 : (.code yX8_saw prog_10_method_49_code 2 (Option.some Jvm.ClassFile.FieldType.int) : Cond) ∈ wt := in_wt 994 rfl rfl
theorem mw_995 : (.methodLink RL 101 yX8_lock : Cond) ∈ wt := in_wt 995 (by decide +kernel) (by decide +kernel)
theorem mw_996 : (.instanceMethod yX8_lock : Cond) ∈ wt := in_wt 996 (by decide +kernel) (by decide +kernel)
theorem mw_997 : (.selects RX8 yX8_lock yX8_lock : Cond) ∈ wt := in_wt 997 (by decide +kernel) (by decide +kernel)
set_option maxRecDepth 100000 in
theorem mw_998 : (.code yX8_lock prog_10_method_51_code 6 (Option.some Jvm.ClassFile.FieldType.int) : Cond) ∈ wt := in_wt 998 rfl rfl
theorem mw_999 : (.methodLink RX8 192 yX8_isLock : Cond) ∈ wt := in_wt 999 (by decide +kernel) (by decide +kernel)
theorem mw_1001 : (.instanceMethod yX8_isLock : Cond) ∈ wt := in_wt 1001 (by decide +kernel) (by decide +kernel)
set_option maxRecDepth 100000 in
theorem mw_1002 : (.code yX8_isLock prog_10_method_50_code 5 (Option.some Jvm.ClassFile.FieldType.boolean) : Cond) ∈ wt := in_wt 1002 rfl rfl
theorem mw_1003 : (.methodLink RL 105 yX8_hears : Cond) ∈ wt := in_wt 1003 (by decide +kernel) (by decide +kernel)
theorem mw_1004 : (.instanceMethod yX8_hears : Cond) ∈ wt := in_wt 1004 (by decide +kernel) (by decide +kernel)
theorem mw_1005 : (.selects RX8 yX8_hears yX8_hears : Cond) ∈ wt := in_wt 1005 (by decide +kernel) (by decide +kernel)
set_option maxRecDepth 100000 in
theorem mw_1006 : (.code yX8_hears prog_10_method_52_code 3 (Option.some Jvm.ClassFile.FieldType.int) : Cond) ∈ wt := in_wt 1006 rfl rfl
theorem mw_1007 : (.methodLink RL 109 yX8_sets : Cond) ∈ wt := in_wt 1007 (by decide +kernel) (by decide +kernel)
theorem mw_1008 : (.instanceMethod yX8_sets : Cond) ∈ wt := in_wt 1008 (by decide +kernel) (by decide +kernel)
theorem mw_1009 : (.selects RX8 yX8_sets yX8_sets : Cond) ∈ wt := in_wt 1009 (by decide +kernel) (by decide +kernel)
set_option maxRecDepth 100000 in
theorem mw_1010 : (.code yX8_sets prog_10_method_54_code 8 (Option.some Jvm.ClassFile.FieldType.int) : Cond) ∈ wt := in_wt 1010 rfl rfl
theorem mw_1011 : (.methodLink RX8 195 yX8_isHeard : Cond) ∈ wt := in_wt 1011 (by decide +kernel) (by decide +kernel)
theorem mw_1013 : (.instanceMethod yX8_isHeard : Cond) ∈ wt := in_wt 1013 (by decide +kernel) (by decide +kernel)
set_option maxRecDepth 100000 in
theorem mw_1014 : (.code yX8_isHeard prog_10_method_53_code 6 (Option.some Jvm.ClassFile.FieldType.boolean) : Cond) ∈ wt := in_wt 1014 rfl rfl
theorem mw_1015 : (.methodLink RL 113 yX8_forget : Cond) ∈ wt := in_wt 1015 (by decide +kernel) (by decide +kernel)
theorem mw_1016 : (.instanceMethod yX8_forget : Cond) ∈ wt := in_wt 1016 (by decide +kernel) (by decide +kernel)
theorem mw_1017 : (.selects RX8 yX8_forget yX8_forget : Cond) ∈ wt := in_wt 1017 (by decide +kernel) (by decide +kernel)
set_option maxRecDepth 100000 in
theorem mw_1018 : (.code yX8_forget prog_10_method_55_code 2 (Option.some Jvm.ClassFile.FieldType.int) : Cond) ∈ wt := in_wt 1018 rfl rfl
theorem mw_1019 : (.methodLink RL 117 yX8_mark : Cond) ∈ wt := in_wt 1019 (by decide +kernel) (by decide +kernel)
theorem mw_1020 : (.instanceMethod yX8_mark : Cond) ∈ wt := in_wt 1020 (by decide +kernel) (by decide +kernel)
theorem mw_1021 : (.selects RX8 yX8_mark yX8_mark : Cond) ∈ wt := in_wt 1021 (by decide +kernel) (by decide +kernel)
set_option maxRecDepth 100000 in
theorem mw_1022 : (.code yX8_mark prog_10_method_56_code 6 (Option.some Jvm.ClassFile.FieldType.int) : Cond) ∈ wt := in_wt 1022 rfl rfl
theorem mw_1023 : (.constant RX8 198 (-1000000 : Int32) : Cond) ∈ wt := in_wt 1023 (by decide +kernel) (by decide +kernel)
theorem mw_1024 : (.constantLong RX8 203 (11 : Int64) : Cond) ∈ wt := in_wt 1024 (by decide +kernel) (by decide +kernel)
theorem mw_1025 : (.constantLong RX8 205 (101 : Int64) : Cond) ∈ wt := in_wt 1025 (by decide +kernel) (by decide +kernel)
theorem mw_1026 : (.constantLong RX8 207 (1011 : Int64) : Cond) ∈ wt := in_wt 1026 (by decide +kernel) (by decide +kernel)
theorem mw_1027 : (.constantLong RX8 209 (10101 : Int64) : Cond) ∈ wt := in_wt 1027 (by decide +kernel) (by decide +kernel)
theorem mw_1028 : (.constantLong RX8 211 (100001 : Int64) : Cond) ∈ wt := in_wt 1028 (by decide +kernel) (by decide +kernel)
theorem mw_1029 : (.methodLink RL 121 yX8_keep : Cond) ∈ wt := in_wt 1029 (by decide +kernel) (by decide +kernel)
theorem mw_1030 : (.instanceMethod yX8_keep : Cond) ∈ wt := in_wt 1030 (by decide +kernel) (by decide +kernel)
theorem mw_1031 : (.selects RX8 yX8_keep yX8_keep : Cond) ∈ wt := in_wt 1031 (by decide +kernel) (by decide +kernel)
set_option maxRecDepth 100000 in
theorem mw_1032 : (.code yX8_keep prog_10_method_57_code 3 (Option.some Jvm.ClassFile.FieldType.int) : Cond) ∈ wt := in_wt 1032 rfl rfl
theorem mw_1033 : (.methodLink RL 125 yX8_back : Cond) ∈ wt := in_wt 1033 (by decide +kernel) (by decide +kernel)
theorem mw_1034 : (.instanceMethod yX8_back : Cond) ∈ wt := in_wt 1034 (by decide +kernel) (by decide +kernel)
theorem mw_1035 : (.selects RX8 yX8_back yX8_back : Cond) ∈ wt := in_wt 1035 (by decide +kernel) (by decide +kernel)
set_option maxRecDepth 100000 in
theorem mw_1036 : (.code yX8_back prog_10_method_58_code 3 (Option.some Jvm.ClassFile.FieldType.int) : Cond) ∈ wt := in_wt 1036 rfl rfl
theorem mw_1037 : (.methodLink RL 129 yX8_count : Cond) ∈ wt := in_wt 1037 (by decide +kernel) (by decide +kernel)
theorem mw_1038 : (.instanceMethod yX8_count : Cond) ∈ wt := in_wt 1038 (by decide +kernel) (by decide +kernel)
theorem mw_1039 : (.selects RX8 yX8_count yX8_count : Cond) ∈ wt := in_wt 1039 (by decide +kernel) (by decide +kernel)
set_option maxRecDepth 100000 in
theorem mw_1040 : (.code yX8_count prog_10_method_59_code 2 (Option.some Jvm.ClassFile.FieldType.int) : Cond) ∈ wt := in_wt 1040 rfl rfl
theorem mw_1041 : (.methodLink RL 134 yX8_trace : Cond) ∈ wt := in_wt 1041 (by decide +kernel) (by decide +kernel)
theorem mw_1042 : (.instanceMethod yX8_trace : Cond) ∈ wt := in_wt 1042 (by decide +kernel) (by decide +kernel)
theorem mw_1043 : (.selects RX8 yX8_trace yX8_trace : Cond) ∈ wt := in_wt 1043 (by decide +kernel) (by decide +kernel)
set_option maxRecDepth 100000 in
theorem mw_1044 : (.code yX8_trace prog_10_method_60_code 1 (Option.some Jvm.ClassFile.FieldType.long) : Cond) ∈ wt := in_wt 1044 rfl rfl
