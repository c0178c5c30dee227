theorem mw_918 : (.instanceMethod yX8_minds : Cond) ∈ wt := in_wt 918 (by decide +kernel) (by decide +kernel)
theorem mw_919 : (.selects RX8 yX8_minds yX8_minds : Cond) ∈ wt := in_wt 919 (by decide +kernel) (by decide +kernel)
set_option maxRecDepth 100000 in
theorem mw_920 : (.code yX8_minds prog_10_method_33_code 4 (Option.some Jvm.ClassFile.FieldType.int) : Cond) ∈ wt := in_wt 920 rfl rfl
theorem mw_921 : (.methodLink RL 55 yX8_cuts : Cond) ∈ wt := in_wt 921 (by decide +kernel) (by decide +kernel)
theorem mw_922 : (.instanceMethod yX8_cuts : Cond) ∈ wt := in_wt 922 (by decide +kernel) (by decide +kernel)
theorem mw_923 : (.selects RX8 yX8_cuts yX8_cuts : Cond) ∈ wt := in_wt 923 (by decide +kernel) (by decide +kernel)
set_option maxRecDepth 100000 in
theorem mw_924 : (.code yX8_cuts prog_10_method_34_code 5 (Option.some Jvm.ClassFile.FieldType.int) : Cond) ∈ wt := in_wt 924 rfl rfl
theorem mw_925 : (.methodLink RL 59 yX8_changes : Cond) ∈ wt := in_wt 925 (by decide +kernel) (by decide +kernel)
theorem mw_926 : (.instanceMethod yX8_changes : Cond) ∈ wt := in_wt 926 (by decide +kernel) (by decide +kernel)
theorem mw_927 : (.selects RX8 yX8_changes yX8_changes : Cond) ∈ wt := in_wt 927 (by decide +kernel) (by decide +kernel)
set_option maxRecDepth 100000 in
theorem mw_928 : (.code yX8_changes prog_10_method_35_code 3 (Option.some Jvm.ClassFile.FieldType.int) : Cond) ∈ wt := in_wt 928 rfl rfl
theorem mw_929 : (.methodLink RL 63 yX8_empties : Cond) ∈ wt := in_wt 929 (by decide +kernel) (by decide +kernel)
theorem mw_930 : (.instanceMethod yX8_empties : Cond) ∈ wt := in_wt 930 (by decide +kernel) (by decide +kernel)
theorem mw_931 : (.selects RX8 yX8_empties yX8_empties : Cond) ∈ wt := in_wt 931 (by decide +kernel) (by decide +kernel)
set_option maxRecDepth 100000 in
theorem mw_932 : (.code yX8_empties prog_10_method_36_code 4 (Option.some Jvm.ClassFile.FieldType.int) : Cond) ∈ wt := in_wt 932 rfl rfl
theorem mw_933 : (.methodLink RX8 160 yX8_inJar : Cond) ∈ wt := in_wt 933 (by decide +kernel) (by decide +kernel)
theorem mw_935 : (.instanceMethod yX8_inJar : Cond) ∈ wt := in_wt 935 (by decide +kernel) (by decide +kernel)
set_option maxRecDepth 100000 in
theorem mw_936 : (.code yX8_inJar prog_10_method_23_code 4 (Option.some Jvm.ClassFile.FieldType.int) : Cond) ∈ wt := in_wt 936 rfl rfl
theorem mw_937 : (.methodLink RL 67 yX8_undo : Cond) ∈ wt := in_wt 937 (by decide +kernel) (by decide +kernel)
theorem mw_938 : (.instanceMethod yX8_undo : Cond) ∈ wt := in_wt 938 (by decide +kernel) (by decide +kernel)
theorem mw_939 : (.selects RX8 yX8_undo yX8_undo : Cond) ∈ wt := in_wt 939 (by decide +kernel) (by decide +kernel)
set_option maxRecDepth 100000 in
theorem mw_940 : (.code yX8_undo prog_10_method_37_code 3 (Option.some Jvm.ClassFile.FieldType.int) : Cond) ∈ wt := in_wt 940 rfl rfl
theorem mw_941 : (.methodLink RL 71 yX8_now : Cond) ∈ wt := in_wt 941 (by decide +kernel) (by decide +kernel)
theorem mw_942 : (.instanceMethod yX8_now : Cond) ∈ wt := in_wt 942 (by decide +kernel) (by decide +kernel)
theorem mw_943 : (.selects RX8 yX8_now yX8_now : Cond) ∈ wt := in_wt 943 (by decide +kernel) (by decide +kernel)
set_option maxRecDepth 100000 in
theorem mw_944 : (.code yX8_now prog_10_method_38_code 5 (Option.some Jvm.ClassFile.FieldType.int) : Cond) ∈ wt := in_wt 944 rfl rfl
theorem mw_945 : (.methodLink RL 75 yX8_reads : Cond) ∈ wt := in_wt 945 (by decide +kernel) (by decide +kernel)
theorem mw_946 : (.instanceMethod yX8_reads : Cond) ∈ wt := in_wt 946 (by decide +kernel) (by decide +kernel)
theorem mw_947 : (.selects RX8 yX8_reads yX8_reads : Cond) ∈ wt := in_wt 947 (by decide +kernel) (by decide +kernel)
set_option maxRecDepth 100000 in
theorem mw_948 : (.code yX8_reads prog_10_method_39_code 7 (Option.some Jvm.ClassFile.FieldType.int) : Cond) ∈ wt := in_wt 948 rfl rfl
theorem mw_949 : (.methodLink RL 80 yX8_plan : Cond) ∈ wt := in_wt 949 (by decide +kernel) (by decide +kernel)
theorem mw_950 : (.instanceMethod yX8_plan : Cond) ∈ wt := in_wt 950 (by decide +kernel) (by decide +kernel)
theorem mw_951 : (.selects RX8 yX8_plan yX8_plan : Cond) ∈ wt := in_wt 951 (by decide +kernel) (by decide +kernel)
set_option maxRecDepth 100000 in
theorem mw_952 : (.code yX8_plan prog_10_method_42_code 7 (Option.some Jvm.ClassFile.FieldType.int) : Cond) ∈ wt := in_wt 952 rfl rfl
theorem mw_953 : (.methodLink RX8 169 yX8_asItIs : Cond) ∈ wt := in_wt 953 (by decide +kernel) (by decide +kernel)
theorem mw_955 : (.instanceMethod yX8_asItIs : Cond) ∈ wt := in_wt 955 (by decide +kernel) (by decide +kernel)
set_option maxRecDepth 100000 in
theorem mw_956 : (.code yX8_asItIs prog_10_method_40_code 3 (Option.none : Option Jvm.ClassFile.FieldType) : Cond) ∈ wt := in_wt 956 rfl rfl
theorem mw_957 : (.methodLink RX8 172 yX8_growsTried : Cond) ∈ wt := in_wt 957 (by decide +kernel) (by decide +kernel)
theorem mw_959 : (.instanceMethod yX8_growsTried : Cond) ∈ wt := in_wt 959 (by decide +kernel) (by decide +kernel)
set_option maxRecDepth 100000 in
theorem mw_960 : (.code yX8_growsTried prog_10_method_41_code 2 (Option.none : Option Jvm.ClassFile.FieldType) : Cond) ∈ wt := in_wt 960 rfl rfl
theorem mw_961 : (.methodLink RL 85 yX8_least : Cond) ∈ wt := in_wt 961 (by decide +kernel) (by decide +kernel)
theorem mw_962 : (.instanceMethod yX8_least : Cond) ∈ wt := in_wt 962 (by decide +kernel) (by decide +kernel)
theorem mw_963 : (.selects RX8 yX8_least yX8_least : Cond) ∈ wt := in_wt 963 (by decide +kernel) (by decide +kernel)
set_option maxRecDepth 100000 in
theorem mw_964 : (.code yX8_least prog_10_method_44_code 7 (Option.some Jvm.ClassFile.FieldType.int) : Cond) ∈ wt := in_wt 964 rfl rfl
theorem mw_965 : (.methodLink RX8 175 yX8_has : Cond) ∈ wt := in_wt 965 (by decide +kernel) (by decide +kernel)
theorem mw_966 : (.static yX8_has : Cond) ∈ wt := in_wt 966 (by decide +kernel) (by decide +kernel)
set_option maxRecDepth 100000 in
theorem mw_967 : (.code yX8_has prog_10_method_4_code 2 (Option.some Jvm.ClassFile.FieldType.boolean) : Cond) ∈ wt := in_wt 967 rfl rfl
theorem mw_968 : (.methodLink RX8 179 yX8_isMost : Cond) ∈ wt := in_wt 968 (by decide +kernel) (by decide +kernel)
theorem mw_970 : (.instanceMethod yX8_isMost : Cond) ∈ wt := in_wt 970 (by decide +kernel) (by decide +kernel)
set_option maxRecDepth 100000 in
theorem mw_971 : (.code yX8_isMost prog_10_method_43_code 7 (Option.some Jvm.ClassFile.FieldType.boolean) : Cond) ∈ wt := in_wt 971 rfl rfl
theorem mw_972 : (.methodLink RX8 182 yX8_bits : Cond) ∈ wt := in_wt 972 (by decide +kernel) (by decide +kernel)
theorem mw_973 : (.static yX8_bits : Cond) ∈ wt := in_wt 973 (by decide +kernel) (by decide +kernel)
set_option maxRecDepth 100000 in
theorem mw_974 : (.code yX8_bits prog_10_method_5_code 3 (Option.some Jvm.ClassFile.FieldType.int) : Cond) ∈ wt := in_wt 974 rfl rfl
theorem mw_975 : (.methodLink RL 89 yX8_wig : Cond) ∈ wt := in_wt 975 (by decide +kernel) (by decide +kernel)
theorem mw_976 : (.instanceMethod yX8_wig : Cond) ∈ wt := in_wt 976 (by decide +kernel) (by decide +kernel)
theorem mw_977 : (.selects RX8 yX8_wig yX8_wig : Cond) ∈ wt := in_wt 977 (by decide +kernel) (by decide +kernel)
set_option maxRecDepth 100000 in
theorem mw_978 : (.code yX8_wig prog_10_method_46_code 5 (Option.some Jvm.ClassFile.FieldType.int) : Cond) ∈ wt := in_wt 978 rfl rfl
theorem mw_979 : (.methodLink RX8 185 yX8_thoughtsOf : Cond) ∈ wt := in_wt 979 (by decide +kernel) (by decide +kernel)
theorem mw_981 : (.instanceMethod yX8_thoughtsOf : Cond) ∈ wt := in_wt 981 (by decide +kernel) (by decide +kernel)
set_option maxRecDepth 100000 in
theorem mw_982 : (.code yX8_thoughtsOf prog_10_method_45_code 5 (Option.some Jvm.ClassFile.FieldType.int) : Cond) ∈ wt := in_wt 982 rfl rfl
theorem mw_983 : (.methodLink RL 93 yX8_odds : Cond) ∈ wt := in_wt 983 (by decide +kernel) (by decide +kernel)
theorem mw_984 : (.instanceMethod yX8_odds : Cond) ∈ wt := in_wt 984 (by decide +kernel) (by decide +kernel)
theorem mw_985 : (.selects RX8 yX8_odds yX8_odds : Cond) ∈ wt := in_wt 985 (by decide +kernel) (by decide +kernel)
set_option maxRecDepth 100000 in
theorem mw_986 : (.code yX8_odds prog_10_method_48_code 10 (Option.some Jvm.ClassFile.FieldType.int) : Cond) ∈ wt := in_wt 986 rfl rfl
theorem mw_987 : (.methodLink RX8 188 yX8_lowest : Cond) ∈ wt := in_wt 987 (by decide +kernel) (by decide +kernel)
theorem mw_988 : (.static yX8_lowest : Cond) ∈ wt := in_wt 988 (by decide +kernel) (by decide +kernel)
set_option maxRecDepth 100000 in
theorem mw_989 : (.code yX8_lowest prog_10_method_47_code 6 (Option.some Jvm.ClassFile.FieldType.int) : Cond) ∈ wt := in_wt 989 rfl rfl
theorem mw_990 : (.methodLink RL 97 yX8_saw : Cond) ∈ wt := in_wt 990 (by decide +kernel) (by decide +kernel)
theorem mw_991 : (.instanceMethod yX8_saw : Cond) ∈ wt := in_wt 991 (by decide +kernel) (by decide +kernel)
theorem mw_992 : (.selects RX8 yX8_saw yX8_saw : Cond) ∈ wt := in_wt 992 (by decide +kernel) (by decide +kernel)
set_option maxRecDepth 100000 in
theorem mw_993 : (.code yX8_saw prog_10_method_49_code 2 (Option.some Jvm.ClassFile.FieldType.int) : Cond) ∈ wt := in_wt 993 rfl rfl
theorem mw_994 : (.methodLink RL 101 yX8_lock : Cond) ∈ wt := in_wt 994 (by decide +kernel) (by decide +kernel)
theorem mw_995 : (.instanceMethod yX8_lock : Cond) ∈ wt := in_wt 995 (by decide +kernel) (by decide +kernel)
theorem mw_996 : (.selects RX8 yX8_lock yX8_lock : Cond) ∈ wt := in_wt 996 (by decide +kernel) (by decide +kernel)
set_option maxRecDepth 100000 in
theorem mw_997 : (.code yX8_lock prog_10_method_51_code 6 (Option.some Jvm.ClassFile.FieldType.int) : Cond) ∈ wt := in_wt 997 rfl rfl
theorem mw_998 : (.methodLink RX8 192 yX8_isLock : Cond) ∈ wt := in_wt 998 (by decide +kernel) (by decide +kernel)
theorem mw_1000 : (.instanceMethod yX8_isLock : Cond) ∈ wt := in_wt 1000 (by decide +kernel) (by decide +kernel)
set_option maxRecDepth 100000 in
theorem mw_1001 : (.code yX8_isLock prog_10_method_50_code 5 (Option.some Jvm.ClassFile.FieldType.boolean) : Cond) ∈ wt := in_wt 1001 rfl rfl
theorem mw_1002 : (.methodLink RL 105 yX8_hears : Cond) ∈ wt := in_wt 1002 (by decide +kernel) (by decide +kernel)
theorem mw_1003 : (.instanceMethod yX8_hears : Cond) ∈ wt := in_wt 1003 (by decide +kernel) (by decide +kernel)
theorem mw_1004 : (.selects RX8 yX8_hears yX8_hears : Cond) ∈ wt := in_wt 1004 (by decide +kernel) (by decide +kernel)
set_option maxRecDepth 100000 in
theorem mw_1005 : (.code yX8_hears prog_10_method_52_code 3 (Option.some Jvm.ClassFile.FieldType.int) : Cond) ∈ wt := in_wt 1005 rfl rfl
theorem mw_1006 : (.methodLink RL 109 yX8_sets : Cond) ∈ wt := in_wt 1006 (by decide +kernel) (by decide +kernel)
theorem mw_1007 : (.instanceMethod yX8_sets : Cond) ∈ wt := in_wt 1007 (by decide +kernel) (by decide +kernel)
theorem mw_1008 : (.selects RX8 yX8_sets yX8_sets : Cond) ∈ wt := in_wt 1008 (by decide +kernel) (by decide +kernel)
set_option maxRecDepth 100000 in
theorem mw_1009 : (.code yX8_sets prog_10_method_54_code 8 (Option.some Jvm.ClassFile.FieldType.int) : Cond) ∈ wt := in_wt 1009 rfl rfl
theorem mw_1010 : (.methodLink RX8 195 yX8_isHeard : Cond) ∈ wt := in_wt 1010 (by decide +kernel) (by decide +kernel)
theorem mw_1012 : (.instanceMethod yX8_isHeard : Cond) ∈ wt := in_wt 1012 (by decide +kernel) (by decide +kernel)
set_option maxRecDepth 100000 in
theorem mw_1013 : (.code yX8_isHeard prog_10_method_53_code 6 (Option.some Jvm.ClassFile.FieldType.boolean) : Cond) ∈ wt := in_wt 1013 rfl rfl
theorem mw_1014 : (.methodLink RL 113 yX8_forget : Cond) ∈ wt := in_wt 1014 (by decide +kernel) (by decide +kernel)
theorem mw_1015 : (.instanceMethod yX8_forget : Cond) ∈ wt := in_wt 1015 (by decide +kernel) (by decide +kernel)
theorem mw_1016 : (.selects RX8 yX8_forget yX8_forget : Cond) ∈ wt := in_wt 1016 (by decide +kernel) (by decide +kernel)
set_option maxRecDepth 100000 in
theorem mw_1017 : (.code yX8_forget prog_10_method_55_code 2 (Option.some Jvm.ClassFile.FieldType.int) : Cond) ∈ wt := in_wt 1017 rfl rfl
theorem mw_1018 : (.methodLink RL 117 yX8_mark : Cond) ∈ wt := in_wt 1018 (by decide +kernel) (by decide +kernel)
theorem mw_1019 : (.instanceMethod yX8_mark : Cond) ∈ wt := in_wt 1019 (by decide +kernel) (by decide +kernel)
theorem mw_1020 : (.selects RX8 yX8_mark yX8_mark : Cond) ∈ wt := in_wt 1020 (by decide +kernel) (by decide +kernel)
set_option maxRecDepth 100000 in
theorem mw_1021 : (.code yX8_mark prog_10_method_56_code 6 (Option.some Jvm.ClassFile.FieldType.int) : Cond) ∈ wt := in_wt 1021 rfl rfl
theorem mw_1022 : (.constant RX8 198 (-1000000 : Int32) : Cond) ∈ wt := in_wt 1022 (by decide +kernel) (by decide +kernel)
theorem mw_1023 : (.constantLong RX8 203 (11 : Int64) : Cond) ∈ wt := in_wt 1023 (by decide +kernel) (by decide +kernel)
theorem mw_1024 : (.constantLong RX8 205 (101 : Int64) : Cond) ∈ wt := in_wt 1024 (by decide +kernel) (by decide +kernel)
theorem mw_1025 : (.constantLong RX8 207 (1011 : Int64) : Cond) ∈ wt := in_wt 1025 (by decide +kernel) (by decide +kernel)
theorem mw_1026 : (.constantLong RX8 209 (10101 : Int64) : Cond) ∈ wt := in_wt 1026 (by decide +kernel) (by decide +kernel)
theorem mw_1027 : (.constantLong RX8 211 (100001 : Int64) : Cond) ∈ wt := in_wt 1027 (by decide +kernel) (by decide +kernel)
theorem mw_1028 : (.methodLink RL 121 yX8_keep : Cond) ∈ wt := in_wt 1028 (by decide +kernel) (by decide +kernel)
theorem mw_1029 : (.instanceMethod yX8_keep : Cond) ∈ wt := in_wt 1029 (by decide +kernel) (by decide +kernel)
theorem mw_1030 : (.selects RX8 yX8_keep yX8_keep : Cond) ∈ wt := in_wt 1030 (by decide +kernel) (by decide +kernel)
set_option maxRecDepth 100000 in
theorem mw_1031 : (.code yX8_keep prog_10_method_57_code 3 (Option.some Jvm.ClassFile.FieldType.int) : Cond) ∈ wt := in_wt 1031 rfl rfl
theorem mw_1032 : (.methodLink RL 125 yX8_back : Cond) ∈ wt := in_wt 1032 (by decide +kernel) (by decide +kernel)
theorem mw_1033 : (.instanceMethod yX8_back : Cond) ∈ wt := in_wt 1033 (by decide +kernel) (by decide +kernel)
theorem mw_1034 : (.selects RX8 yX8_back yX8_back : Cond) ∈ wt := in_wt 1034 (by decide +kernel) (by decide +kernel)
set_option maxRecDepth 100000 in
theorem mw_1035 : (.code yX8_back prog_10_method_58_code 3 (Option.some Jvm.ClassFile.FieldType.int) : Cond) ∈ wt := in_wt 1035 rfl rfl
theorem mw_1036 : (.methodLink RL 129 yX8_count : Cond) ∈ wt := in_wt 1036 (by decide +kernel) (by decide +kernel)
theorem mw_1037 : (.instanceMethod yX8_count : Cond) ∈ wt := in_wt 1037 (by decide +kernel) (by decide +kernel)
theorem mw_1038 : (.selects RX8 yX8_count yX8_count : Cond) ∈ wt := in_wt 1038 (by decide +kernel) (by decide +kernel)
set_option maxRecDepth 100000 in
theorem mw_1039 : (.code yX8_count prog_10_method_59_code 2 (Option.some Jvm.ClassFile.FieldType.int) : Cond) ∈ wt := in_wt 1039 rfl rfl
theorem mw_1040 : (.methodLink RL 134 yX8_trace : Cond) ∈ wt := in_wt 1040 (by decide +kernel) (by decide +kernel)
theorem mw_1041 : (.instanceMethod yX8_trace : Cond) ∈ wt := in_wt 1041 (by decide +kernel) (by decide +kernel)
theorem mw_1042 : (.selects RX8 yX8_trace yX8_trace : Cond) ∈ wt := in_wt 1042 (by decide +kernel) (by decide +kernel)
set_option maxRecDepth 100000 in
theorem mw_1043 : (.code yX8_trace prog_10_method_60_code 1 (Option.some Jvm.ClassFile.FieldType.long) : Cond) ∈ wt := in_wt 1043 rfl rfl
