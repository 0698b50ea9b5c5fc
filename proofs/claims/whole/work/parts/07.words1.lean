theorem k_993 : (Cond.methodLink RX6 322 yX6_either0) ∈ tb := tb_of (List.mem_append_right _ (List.mem_of_getElem? (i := 993) (by decide +kernel))) (by decide +kernel)
theorem k_995 : (Cond.instanceMethod yX6_either0) ∈ tb := tb_of (List.mem_append_right _ (List.mem_of_getElem? (i := 995) (by decide +kernel))) (by decide +kernel)
theorem k_996 : (Cond.code yX6_either0 cX6_either0 3 (some .int)) ∈ tb := tb_of (List.mem_append_right _ (List.mem_of_getElem? (i := 996) (by decide +kernel))) (by decide +kernel)
theorem k_997 : (Cond.methodLink RX6 319 yX6_both0) ∈ tb := tb_of (List.mem_append_right _ (List.mem_of_getElem? (i := 997) (by decide +kernel))) (by decide +kernel)
theorem k_999 : (Cond.instanceMethod yX6_both0) ∈ tb := tb_of (List.mem_append_right _ (List.mem_of_getElem? (i := 999) (by decide +kernel))) (by decide +kernel)
theorem k_1000 : (Cond.code yX6_both0 cX6_both0 3 (some .int)) ∈ tb := tb_of (List.mem_append_right _ (List.mem_of_getElem? (i := 1000) (by decide +kernel))) (by decide +kernel)
theorem k_1001 : (Cond.methodLink RX6 316 yX6_not0) ∈ tb := tb_of (List.mem_append_right _ (List.mem_of_getElem? (i := 1001) (by decide +kernel))) (by decide +kernel)
theorem k_1003 : (Cond.instanceMethod yX6_not0) ∈ tb := tb_of (List.mem_append_right _ (List.mem_of_getElem? (i := 1003) (by decide +kernel))) (by decide +kernel)
theorem k_1004 : (Cond.code yX6_not0 cX6_not0 4 (some .int)) ∈ tb := tb_of (List.mem_append_right _ (List.mem_of_getElem? (i := 1004) (by decide +kernel))) (by decide +kernel)
theorem k_1005 : (Cond.methodLink RX6 205 yX6_opens) ∈ tb := tb_of (List.mem_append_right _ (List.mem_of_getElem? (i := 1005) (by decide +kernel))) (by decide +kernel)
theorem k_1007 : (Cond.instanceMethod yX6_opens) ∈ tb := tb_of (List.mem_append_right _ (List.mem_of_getElem? (i := 1007) (by decide +kernel))) (by decide +kernel)
theorem k_1008 : (Cond.code yX6_opens cX6_opens 1 (some .boolean)) ∈ tb := tb_of (List.mem_append_right _ (List.mem_of_getElem? (i := 1008) (by decide +kernel))) (by decide +kernel)
theorem k_1009 : (Cond.methodLink RX6 298 yX6_not1) ∈ tb := tb_of (List.mem_append_right _ (List.mem_of_getElem? (i := 1009) (by decide +kernel))) (by decide +kernel)
theorem k_1011 : (Cond.instanceMethod yX6_not1) ∈ tb := tb_of (List.mem_append_right _ (List.mem_of_getElem? (i := 1011) (by decide +kernel))) (by decide +kernel)
theorem k_1012 : (Cond.code yX6_not1 cX6_not1 4 (some .int)) ∈ tb := tb_of (List.mem_append_right _ (List.mem_of_getElem? (i := 1012) (by decide +kernel))) (by decide +kernel)
theorem k_1013 : (Cond.methodLink RX6 280 yX6_not2) ∈ tb := tb_of (List.mem_append_right _ (List.mem_of_getElem? (i := 1013) (by decide +kernel))) (by decide +kernel)
theorem k_1015 : (Cond.instanceMethod yX6_not2) ∈ tb := tb_of (List.mem_append_right _ (List.mem_of_getElem? (i := 1015) (by decide +kernel))) (by decide +kernel)
theorem k_1016 : (Cond.code yX6_not2 cX6_not2 4 (some .int)) ∈ tb := tb_of (List.mem_append_right _ (List.mem_of_getElem? (i := 1016) (by decide +kernel))) (by decide +kernel)
theorem k_1017 : (Cond.methodLink RX6 262 yX6_not3) ∈ tb := tb_of (List.mem_append_right _ (List.mem_of_getElem? (i := 1017) (by decide +kernel))) (by decide +kernel)
theorem k_1019 : (Cond.instanceMethod yX6_not3) ∈ tb := tb_of (List.mem_append_right _ (List.mem_of_getElem? (i := 1019) (by decide +kernel))) (by decide +kernel)
theorem k_1020 : (Cond.code yX6_not3 cX6_not3 4 (some .int)) ∈ tb := tb_of (List.mem_append_right _ (List.mem_of_getElem? (i := 1020) (by decide +kernel))) (by decide +kernel)
theorem k_1021 : (Cond.methodLink RX6 244 yX6_not4) ∈ tb := tb_of (List.mem_append_right _ (List.mem_of_getElem? (i := 1021) (by decide +kernel))) (by decide +kernel)
theorem k_1023 : (Cond.instanceMethod yX6_not4) ∈ tb := tb_of (List.mem_append_right _ (List.mem_of_getElem? (i := 1023) (by decide +kernel))) (by decide +kernel)
theorem k_1024 : (Cond.code yX6_not4 cX6_not4 4 (some .int)) ∈ tb := tb_of (List.mem_append_right _ (List.mem_of_getElem? (i := 1024) (by decide +kernel))) (by decide +kernel)
theorem k_1025 : (Cond.methodLink RX6 226 yX6_not5) ∈ tb := tb_of (List.mem_append_right _ (List.mem_of_getElem? (i := 1025) (by decide +kernel))) (by decide +kernel)
theorem k_1027 : (Cond.instanceMethod yX6_not5) ∈ tb := tb_of (List.mem_append_right _ (List.mem_of_getElem? (i := 1027) (by decide +kernel))) (by decide +kernel)
theorem k_1028 : (Cond.code yX6_not5 cX6_not5 4 (some .int)) ∈ tb := tb_of (List.mem_append_right _ (List.mem_of_getElem? (i := 1028) (by decide +kernel))) (by decide +kernel)
theorem k_1029 : (Cond.methodLink RX6 221 yX6_added5) ∈ tb := tb_of (List.mem_append_right _ (List.mem_of_getElem? (i := 1029) (by decide +kernel))) (by decide +kernel)
theorem k_1031 : (Cond.instanceMethod yX6_added5) ∈ tb := tb_of (List.mem_append_right _ (List.mem_of_getElem? (i := 1031) (by decide +kernel))) (by decide +kernel)
theorem k_1032 : (Cond.code yX6_added5 cX6_added5 4 (some .int)) ∈ tb := tb_of (List.mem_append_right _ (List.mem_of_getElem? (i := 1032) (by decide +kernel))) (by decide +kernel)
theorem k_1033 : (Cond.methodLink RX6 216 yX6_term5) ∈ tb := tb_of (List.mem_append_right _ (List.mem_of_getElem? (i := 1033) (by decide +kernel))) (by decide +kernel)
theorem k_1035 : (Cond.instanceMethod yX6_term5) ∈ tb := tb_of (List.mem_append_right _ (List.mem_of_getElem? (i := 1035) (by decide +kernel))) (by decide +kernel)
theorem k_1036 : (Cond.code yX6_term5 cX6_term5 2 (some .int)) ∈ tb := tb_of (List.mem_append_right _ (List.mem_of_getElem? (i := 1036) (by decide +kernel))) (by decide +kernel)
theorem k_1037 : (Cond.methodLink RX6 213 yX6_atom5) ∈ tb := tb_of (List.mem_append_right _ (List.mem_of_getElem? (i := 1037) (by decide +kernel))) (by decide +kernel)
theorem k_1039 : (Cond.instanceMethod yX6_atom5) ∈ tb := tb_of (List.mem_append_right _ (List.mem_of_getElem? (i := 1039) (by decide +kernel))) (by decide +kernel)
theorem k_1040 : (Cond.code yX6_atom5 cX6_atom5 2 (some .int)) ∈ tb := tb_of (List.mem_append_right _ (List.mem_of_getElem? (i := 1040) (by decide +kernel))) (by decide +kernel)
theorem k_1041 : (Cond.methodLink RX6 202 yX6_isSign) ∈ tb := tb_of (List.mem_append_right _ (List.mem_of_getElem? (i := 1041) (by decide +kernel))) (by decide +kernel)
theorem k_1043 : (Cond.instanceMethod yX6_isSign) ∈ tb := tb_of (List.mem_append_right _ (List.mem_of_getElem? (i := 1043) (by decide +kernel))) (by decide +kernel)
theorem k_1044 : (Cond.code yX6_isSign cX6_isSign 2 (some .boolean)) ∈ tb := tb_of (List.mem_append_right _ (List.mem_of_getElem? (i := 1044) (by decide +kernel))) (by decide +kernel)
theorem k_1045 : (Cond.methodLink RX6 209 yX6_name) ∈ tb := tb_of (List.mem_append_right _ (List.mem_of_getElem? (i := 1045) (by decide +kernel))) (by decide +kernel)
theorem k_1047 : (Cond.instanceMethod yX6_name) ∈ tb := tb_of (List.mem_append_right _ (List.mem_of_getElem? (i := 1047) (by decide +kernel))) (by decide +kernel)
theorem k_1048 : (Cond.code yX6_name cX6_name 1 (some .int)) ∈ tb := tb_of (List.mem_append_right _ (List.mem_of_getElem? (i := 1048) (by decide +kernel))) (by decide +kernel)
theorem k_1049 : (Cond.constantLong RX6 219 (43)) ∈ tb := tb_of (List.mem_append_right _ (List.mem_of_getElem? (i := 1049) (by decide +kernel))) (by decide +kernel)
theorem k_1050 : (Cond.constantLong RX6 224 (60)) ∈ tb := tb_of (List.mem_append_right _ (List.mem_of_getElem? (i := 1050) (by decide +kernel))) (by decide +kernel)
theorem k_1051 : (Cond.methodLink RX6 241 yX6_added4) ∈ tb := tb_of (List.mem_append_right _ (List.mem_of_getElem? (i := 1051) (by decide +kernel))) (by decide +kernel)
theorem k_1053 : (Cond.instanceMethod yX6_added4) ∈ tb := tb_of (List.mem_append_right _ (List.mem_of_getElem? (i := 1053) (by decide +kernel))) (by decide +kernel)
theorem k_1054 : (Cond.code yX6_added4 cX6_added4 4 (some .int)) ∈ tb := tb_of (List.mem_append_right _ (List.mem_of_getElem? (i := 1054) (by decide +kernel))) (by decide +kernel)
theorem k_1055 : (Cond.methodLink RX6 238 yX6_term4) ∈ tb := tb_of (List.mem_append_right _ (List.mem_of_getElem? (i := 1055) (by decide +kernel))) (by decide +kernel)
theorem k_1057 : (Cond.instanceMethod yX6_term4) ∈ tb := tb_of (List.mem_append_right _ (List.mem_of_getElem? (i := 1057) (by decide +kernel))) (by decide +kernel)
theorem k_1058 : (Cond.code yX6_term4 cX6_term4 2 (some .int)) ∈ tb := tb_of (List.mem_append_right _ (List.mem_of_getElem? (i := 1058) (by decide +kernel))) (by decide +kernel)
theorem k_1059 : (Cond.methodLink RX6 235 yX6_atom4) ∈ tb := tb_of (List.mem_append_right _ (List.mem_of_getElem? (i := 1059) (by decide +kernel))) (by decide +kernel)
theorem k_1061 : (Cond.instanceMethod yX6_atom4) ∈ tb := tb_of (List.mem_append_right _ (List.mem_of_getElem? (i := 1061) (by decide +kernel))) (by decide +kernel)
theorem k_1062 : (Cond.code yX6_atom4 cX6_atom4 2 (some .int)) ∈ tb := tb_of (List.mem_append_right _ (List.mem_of_getElem? (i := 1062) (by decide +kernel))) (by decide +kernel)
theorem k_1063 : (Cond.methodLink RX6 232 yX6_either5) ∈ tb := tb_of (List.mem_append_right _ (List.mem_of_getElem? (i := 1063) (by decide +kernel))) (by decide +kernel)
theorem k_1065 : (Cond.instanceMethod yX6_either5) ∈ tb := tb_of (List.mem_append_right _ (List.mem_of_getElem? (i := 1065) (by decide +kernel))) (by decide +kernel)
theorem k_1066 : (Cond.code yX6_either5 cX6_either5 3 (some .int)) ∈ tb := tb_of (List.mem_append_right _ (List.mem_of_getElem? (i := 1066) (by decide +kernel))) (by decide +kernel)
theorem k_1067 : (Cond.methodLink RX6 229 yX6_both5) ∈ tb := tb_of (List.mem_append_right _ (List.mem_of_getElem? (i := 1067) (by decide +kernel))) (by decide +kernel)
theorem k_1069 : (Cond.instanceMethod yX6_both5) ∈ tb := tb_of (List.mem_append_right _ (List.mem_of_getElem? (i := 1069) (by decide +kernel))) (by decide +kernel)
theorem k_1070 : (Cond.code yX6_both5 cX6_both5 3 (some .int)) ∈ tb := tb_of (List.mem_append_right _ (List.mem_of_getElem? (i := 1070) (by decide +kernel))) (by decide +kernel)
theorem k_1071 : (Cond.methodLink RX6 259 yX6_added3) ∈ tb := tb_of (List.mem_append_right _ (List.mem_of_getElem? (i := 1071) (by decide +kernel))) (by decide +kernel)
theorem k_1073 : (Cond.instanceMethod yX6_added3) ∈ tb := tb_of (List.mem_append_right _ (List.mem_of_getElem? (i := 1073) (by decide +kernel))) (by decide +kernel)
theorem k_1074 : (Cond.code yX6_added3 cX6_added3 4 (some .int)) ∈ tb := tb_of (List.mem_append_right _ (List.mem_of_getElem? (i := 1074) (by decide +kernel))) (by decide +kernel)
theorem k_1075 : (Cond.methodLink RX6 256 yX6_term3) ∈ tb := tb_of (List.mem_append_right _ (List.mem_of_getElem? (i := 1075) (by decide +kernel))) (by decide +kernel)
theorem k_1077 : (Cond.instanceMethod yX6_term3) ∈ tb := tb_of (List.mem_append_right _ (List.mem_of_getElem? (i := 1077) (by decide +kernel))) (by decide +kernel)
theorem k_1078 : (Cond.code yX6_term3 cX6_term3 2 (some .int)) ∈ tb := tb_of (List.mem_append_right _ (List.mem_of_getElem? (i := 1078) (by decide +kernel))) (by decide +kernel)
theorem k_1079 : (Cond.methodLink RX6 253 yX6_atom3) ∈ tb := tb_of (List.mem_append_right _ (List.mem_of_getElem? (i := 1079) (by decide +kernel))) (by decide +kernel)
theorem k_1081 : (Cond.instanceMethod yX6_atom3) ∈ tb := tb_of (List.mem_append_right _ (List.mem_of_getElem? (i := 1081) (by decide +kernel))) (by decide +kernel)
theorem k_1082 : (Cond.code yX6_atom3 cX6_atom3 2 (some .int)) ∈ tb := tb_of (List.mem_append_right _ (List.mem_of_getElem? (i := 1082) (by decide +kernel))) (by decide +kernel)
theorem k_1083 : (Cond.methodLink RX6 250 yX6_either4) ∈ tb := tb_of (List.mem_append_right _ (List.mem_of_getElem? (i := 1083) (by decide +kernel))) (by decide +kernel)
theorem k_1085 : (Cond.instanceMethod yX6_either4) ∈ tb := tb_of (List.mem_append_right _ (List.mem_of_getElem? (i := 1085) (by decide +kernel))) (by decide +kernel)
theorem k_1086 : (Cond.code yX6_either4 cX6_either4 3 (some .int)) ∈ tb := tb_of (List.mem_append_right _ (List.mem_of_getElem? (i := 1086) (by decide +kernel))) (by decide +kernel)
theorem k_1087 : (Cond.methodLink RX6 247 yX6_both4) ∈ tb := tb_of (List.mem_append_right _ (List.mem_of_getElem? (i := 1087) (by decide +kernel))) (by decide +kernel)
theorem k_1089 : (Cond.instanceMethod yX6_both4) ∈ tb := tb_of (List.mem_append_right _ (List.mem_of_getElem? (i := 1089) (by decide +kernel))) (by decide +kernel)
theorem k_1090 : (Cond.code yX6_both4 cX6_both4 3 (some .int)) ∈ tb := tb_of (List.mem_append_right _ (List.mem_of_getElem? (i := 1090) (by decide +kernel))) (by decide +kernel)
theorem k_1091 : (Cond.methodLink RX6 277 yX6_added2) ∈ tb := tb_of (List.mem_append_right _ (List.mem_of_getElem? (i := 1091) (by decide +kernel))) (by decide +kernel)
theorem k_1093 : (Cond.instanceMethod yX6_added2) ∈ tb := tb_of (List.mem_append_right _ (List.mem_of_getElem? (i := 1093) (by decide +kernel))) (by decide +kernel)
theorem k_1094 : (Cond.code yX6_added2 cX6_added2 4 (some .int)) ∈ tb := tb_of (List.mem_append_right _ (List.mem_of_getElem? (i := 1094) (by decide +kernel))) (by decide +kernel)
theorem k_1095 : (Cond.methodLink RX6 274 yX6_term2) ∈ tb := tb_of (List.mem_append_right _ (List.mem_of_getElem? (i := 1095) (by decide +kernel))) (by decide +kernel)
theorem k_1097 : (Cond.instanceMethod yX6_term2) ∈ tb := tb_of (List.mem_append_right _ (List.mem_of_getElem? (i := 1097) (by decide +kernel))) (by decide +kernel)
theorem k_1098 : (Cond.code yX6_term2 cX6_term2 2 (some .int)) ∈ tb := tb_of (List.mem_append_right _ (List.mem_of_getElem? (i := 1098) (by decide +kernel))) (by decide +kernel)
theorem k_1099 : (Cond.methodLink RX6 271 yX6_atom2) ∈ tb := tb_of (List.mem_append_right _ (List.mem_of_getElem? (i := 1099) (by decide +kernel))) (by decide +kernel)
theorem k_1101 : (Cond.instanceMethod yX6_atom2) ∈ tb := tb_of (List.mem_append_right _ (List.mem_of_getElem? (i := 1101) (by decide +kernel))) (by decide +kernel)
theorem k_1102 : (Cond.code yX6_atom2 cX6_atom2 2 (some .int)) ∈ tb := tb_of (List.mem_append_right _ (List.mem_of_getElem? (i := 1102) (by decide +kernel))) (by decide +kernel)
theorem k_1103 : (Cond.methodLink RX6 268 yX6_either3) ∈ tb := tb_of (List.mem_append_right _ (List.mem_of_getElem? (i := 1103) (by decide +kernel))) (by decide +kernel)
theorem k_1105 : (Cond.instanceMethod yX6_either3) ∈ tb := tb_of (List.mem_append_right _ (List.mem_of_getElem? (i := 1105) (by decide +kernel))) (by decide +kernel)
theorem k_1106 : (Cond.code yX6_either3 cX6_either3 3 (some .int)) ∈ tb := tb_of (List.mem_append_right _ (List.mem_of_getElem? (i := 1106) (by decide +kernel))) (by decide +kernel)
theorem k_1107 : (Cond.methodLink RX6 265 yX6_both3) ∈ tb := tb_of (List.mem_append_right _ (List.mem_of_getElem? (i := 1107) (by decide +kernel))) (by decide +kernel)
theorem k_1109 : (Cond.instanceMethod yX6_both3) ∈ tb := tb_of (List.mem_append_right _ (List.mem_of_getElem? (i := 1109) (by decide +kernel))) (by decide +kernel)
theorem k_1110 : (Cond.code yX6_both3 cX6_both3 3 (some .int)) ∈ tb := tb_of (List.mem_append_right _ (List.mem_of_getElem? (i := 1110) (by decide +kernel))) (by decide +kernel)
theorem k_1111 : (Cond.methodLink RX6 295 yX6_added1) ∈ tb := tb_of (List.mem_append_right _ (List.mem_of_getElem? (i := 1111) (by decide +kernel))) (by decide +kernel)
theorem k_1113 : (Cond.instanceMethod yX6_added1) ∈ tb := tb_of (List.mem_append_right _ (List.mem_of_getElem? (i := 1113) (by decide +kernel))) (by decide +kernel)
theorem k_1114 : (Cond.code yX6_added1 cX6_added1 4 (some .int)) ∈ tb := tb_of (List.mem_append_right _ (List.mem_of_getElem? (i := 1114) (by decide +kernel))) (by decide +kernel)
theorem k_1115 : (Cond.methodLink RX6 292 yX6_term1) ∈ tb := tb_of (List.mem_append_right _ (List.mem_of_getElem? (i := 1115) (by decide +kernel))) (by decide +kernel)
theorem k_1117 : (Cond.instanceMethod yX6_term1) ∈ tb := tb_of (List.mem_append_right _ (List.mem_of_getElem? (i := 1117) (by decide +kernel))) (by decide +kernel)
theorem k_1118 : (Cond.code yX6_term1 cX6_term1 2 (some .int)) ∈ tb := tb_of (List.mem_append_right _ (List.mem_of_getElem? (i := 1118) (by decide +kernel))) (by decide +kernel)
theorem k_1119 : (Cond.methodLink RX6 289 yX6_atom1) ∈ tb := tb_of (List.mem_append_right _ (List.mem_of_getElem? (i := 1119) (by decide +kernel))) (by decide +kernel)
theorem k_1121 : (Cond.instanceMethod yX6_atom1) ∈ tb := tb_of (List.mem_append_right _ (List.mem_of_getElem? (i := 1121) (by decide +kernel))) (by decide +kernel)
theorem k_1122 : (Cond.code yX6_atom1 cX6_atom1 2 (some .int)) ∈ tb := tb_of (List.mem_append_right _ (List.mem_of_getElem? (i := 1122) (by decide +kernel))) (by decide +kernel)
theorem k_1123 : (Cond.methodLink RX6 286 yX6_either2) ∈ tb := tb_of (List.mem_append_right _ (List.mem_of_getElem? (i := 1123) (by decide +kernel))) (by decide +kernel)
theorem k_1125 : (Cond.instanceMethod yX6_either2) ∈ tb := tb_of (List.mem_append_right _ (List.mem_of_getElem? (i := 1125) (by decide +kernel))) (by decide +kernel)
theorem k_1126 : (Cond.code yX6_either2 cX6_either2 3 (some .int)) ∈ tb := tb_of (List.mem_append_right _ (List.mem_of_getElem? (i := 1126) (by decide +kernel))) (by decide +kernel)
theorem k_1127 : (Cond.methodLink RX6 283 yX6_both2) ∈ tb := tb_of (List.mem_append_right _ (List.mem_of_getElem? (i := 1127) (by decide +kernel))) (by decide +kernel)
theorem k_1129 : (Cond.instanceMethod yX6_both2) ∈ tb := tb_of (List.mem_append_right _ (List.mem_of_getElem? (i := 1129) (by decide +kernel))) (by decide +kernel)
theorem k_1130 : (Cond.code yX6_both2 cX6_both2 3 (some .int)) ∈ tb := tb_of (List.mem_append_right _ (List.mem_of_getElem? (i := 1130) (by decide +kernel))) (by decide +kernel)
theorem k_1131 : (Cond.methodLink RX6 313 yX6_added0) ∈ tb := tb_of (List.mem_append_right _ (List.mem_of_getElem? (i := 1131) (by decide +kernel))) (by decide +kernel)
theorem k_1133 : (Cond.instanceMethod yX6_added0) ∈ tb := tb_of (List.mem_append_right _ (List.mem_of_getElem? (i := 1133) (by decide +kernel))) (by decide +kernel)
theorem k_1134 : (Cond.code yX6_added0 cX6_added0 4 (some .int)) ∈ tb := tb_of (List.mem_append_right _ (List.mem_of_getElem? (i := 1134) (by decide +kernel))) (by decide +kernel)
theorem k_1135 : (Cond.methodLink RX6 310 yX6_term0) ∈ tb := tb_of (List.mem_append_right _ (List.mem_of_getElem? (i := 1135) (by decide +kernel))) (by decide +kernel)
theorem k_1137 : (Cond.instanceMethod yX6_term0) ∈ tb := tb_of (List.mem_append_right _ (List.mem_of_getElem? (i := 1137) (by decide +kernel))) (by decide +kernel)
theorem k_1138 : (Cond.code yX6_term0 cX6_term0 2 (some .int)) ∈ tb := tb_of (List.mem_append_right _ (List.mem_of_getElem? (i := 1138) (by decide +kernel))) (by decide +kernel)
theorem k_1139 : (Cond.methodLink RX6 307 yX6_atom0) ∈ tb := tb_of (List.mem_append_right _ (List.mem_of_getElem? (i := 1139) (by decide +kernel))) (by decide +kernel)
theorem k_1141 : (Cond.instanceMethod yX6_atom0) ∈ tb := tb_of (List.mem_append_right _ (List.mem_of_getElem? (i := 1141) (by decide +kernel))) (by decide +kernel)
theorem k_1142 : (Cond.code yX6_atom0 cX6_atom0 2 (some .int)) ∈ tb := tb_of (List.mem_append_right _ (List.mem_of_getElem? (i := 1142) (by decide +kernel))) (by decide +kernel)
theorem k_1143 : (Cond.methodLink RX6 304 yX6_either1) ∈ tb := tb_of (List.mem_append_right _ (List.mem_of_getElem? (i := 1143) (by decide +kernel))) (by decide +kernel)
theorem k_1145 : (Cond.instanceMethod yX6_either1) ∈ tb := tb_of (List.mem_append_right _ (List.mem_of_getElem? (i := 1145) (by decide +kernel))) (by decide +kernel)
theorem k_1146 : (Cond.code yX6_either1 cX6_either1 3 (some .int)) ∈ tb := tb_of (List.mem_append_right _ (List.mem_of_getElem? (i := 1146) (by decide +kernel))) (by decide +kernel)
theorem k_1147 : (Cond.methodLink RX6 301 yX6_both1) ∈ tb := tb_of (List.mem_append_right _ (List.mem_of_getElem? (i := 1147) (by decide +kernel))) (by decide +kernel)
theorem k_1149 : (Cond.instanceMethod yX6_both1) ∈ tb := tb_of (List.mem_append_right _ (List.mem_of_getElem? (i := 1149) (by decide +kernel))) (by decide +kernel)
theorem k_1150 : (Cond.code yX6_both1 cX6_both1 3 (some .int)) ∈ tb := tb_of (List.mem_append_right _ (List.mem_of_getElem? (i := 1150) (by decide +kernel))) (by decide +kernel)
theorem k_1151 : (Cond.methodLink RL 48 yX6_force) ∈ tb := tb_of (List.mem_append_right _ (List.mem_of_getElem? (i := 1151) (by decide +kernel))) (by decide +kernel)
theorem k_1152 : (Cond.instanceMethod yX6_force) ∈ tb := tb_of (List.mem_append_right _ (List.mem_of_getElem? (i := 1152) (by decide +kernel))) (by decide +kernel)
theorem k_1153 : (Cond.selects RX6 yX6_force yX6_force) ∈ tb := tb_of (List.mem_append_right _ (List.mem_of_getElem? (i := 1153) (by decide +kernel))) (by decide +kernel)
theorem k_1154 : (Cond.code yX6_force cX6_force 3 (some .int)) ∈ tb := tb_of (List.mem_append_right _ (List.mem_of_getElem? (i := 1154) (by decide +kernel))) (by decide +kernel)
theorem k_1155 : (Cond.methodLink RL 52 yX6_at) ∈ tb := tb_of (List.mem_append_right _ (List.mem_of_getElem? (i := 1155) (by decide +kernel))) (by decide +kernel)
theorem k_1156 : (Cond.instanceMethod yX6_at) ∈ tb := tb_of (List.mem_append_right _ (List.mem_of_getElem? (i := 1156) (by decide +kernel))) (by decide +kernel)
theorem k_1157 : (Cond.selects RX6 yX6_at yX6_at) ∈ tb := tb_of (List.mem_append_right _ (List.mem_of_getElem? (i := 1157) (by decide +kernel))) (by decide +kernel)
theorem k_1158 : (Cond.code yX6_at cX6_at 3 (some .int)) ∈ tb := tb_of (List.mem_append_right _ (List.mem_of_getElem? (i := 1158) (by decide +kernel))) (by decide +kernel)
theorem k_1159 : (Cond.methodLink RX6 335 yX6_where) ∈ tb := tb_of (List.mem_append_right _ (List.mem_of_getElem? (i := 1159) (by decide +kernel))) (by decide +kernel)
theorem k_1161 : (Cond.instanceMethod yX6_where) ∈ tb := tb_of (List.mem_append_right _ (List.mem_of_getElem? (i := 1161) (by decide +kernel))) (by decide +kernel)
theorem k_1162 : (Cond.code yX6_where cX6_where 5 (some .int)) ∈ tb := tb_of (List.mem_append_right _ (List.mem_of_getElem? (i := 1162) (by decide +kernel))) (by decide +kernel)
theorem k_1163 : (Cond.methodLink RX6 113 yX6_toldAt) ∈ tb := tb_of (List.mem_append_right _ (List.mem_of_getElem? (i := 1163) (by decide +kernel))) (by decide +kernel)
theorem k_1165 : (Cond.instanceMethod yX6_toldAt) ∈ tb := tb_of (List.mem_append_right _ (List.mem_of_getElem? (i := 1165) (by decide +kernel))) (by decide +kernel)
theorem k_1166 : (Cond.code yX6_toldAt cX6_toldAt 6 (some .int)) ∈ tb := tb_of (List.mem_append_right _ (List.mem_of_getElem? (i := 1166) (by decide +kernel))) (by decide +kernel)
theorem k_1167 : (Cond.methodLink RX6 117 yX6_lateAt) ∈ tb := tb_of (List.mem_append_right _ (List.mem_of_getElem? (i := 1167) (by decide +kernel))) (by decide +kernel)
theorem k_1169 : (Cond.instanceMethod yX6_lateAt) ∈ tb := tb_of (List.mem_append_right _ (List.mem_of_getElem? (i := 1169) (by decide +kernel))) (by decide +kernel)
theorem k_1170 : (Cond.code yX6_lateAt cX6_lateAt 4 (some .int)) ∈ tb := tb_of (List.mem_append_right _ (List.mem_of_getElem? (i := 1170) (by decide +kernel))) (by decide +kernel)
theorem k_1171 : (Cond.methodLink RX6 120 yX6_within) ∈ tb := tb_of (List.mem_append_right _ (List.mem_of_getElem? (i := 1171) (by decide +kernel))) (by decide +kernel)
theorem k_1172 : (Cond.static yX6_within) ∈ tb := tb_of (List.mem_append_right _ (List.mem_of_getElem? (i := 1172) (by decide +kernel))) (by decide +kernel)
theorem k_1173 : (Cond.code yX6_within cX6_within 3 (some .int)) ∈ tb := tb_of (List.mem_append_right _ (List.mem_of_getElem? (i := 1173) (by decide +kernel))) (by decide +kernel)
theorem k_1174 : (Cond.methodLink RL 56 yX6_asks) ∈ tb := tb_of (List.mem_append_right _ (List.mem_of_getElem? (i := 1174) (by decide +kernel))) (by decide +kernel)
theorem k_1175 : (Cond.instanceMethod yX6_asks) ∈ tb := tb_of (List.mem_append_right _ (List.mem_of_getElem? (i := 1175) (by decide +kernel))) (by decide +kernel)
theorem k_1176 : (Cond.selects RX6 yX6_asks yX6_asks) ∈ tb := tb_of (List.mem_append_right _ (List.mem_of_getElem? (i := 1176) (by decide +kernel))) (by decide +kernel)
theorem k_1177 : (Cond.code yX6_asks cX6_asks 4 (some .int)) ∈ tb := tb_of (List.mem_append_right _ (List.mem_of_getElem? (i := 1177) (by decide +kernel))) (by decide +kernel)
theorem k_1178 : (Cond.constantLong RX6 342 (2)) ∈ tb := tb_of (List.mem_append_right _ (List.mem_of_getElem? (i := 1178) (by decide +kernel))) (by decide +kernel)
theorem k_1179 : (Cond.methodLink RX6 344 yX6_says) ∈ tb := tb_of (List.mem_append_right _ (List.mem_of_getElem? (i := 1179) (by decide +kernel))) (by decide +kernel)
theorem k_1181 : (Cond.instanceMethod yX6_says) ∈ tb := tb_of (List.mem_append_right _ (List.mem_of_getElem? (i := 1181) (by decide +kernel))) (by decide +kernel)
theorem k_1182 : (Cond.code yX6_says cX6_says 6 (some .int)) ∈ tb := tb_of (List.mem_append_right _ (List.mem_of_getElem? (i := 1182) (by decide +kernel))) (by decide +kernel)
theorem k_1183 : (Cond.methodLink RX6 338 yX6_plain) ∈ tb := tb_of (List.mem_append_right _ (List.mem_of_getElem? (i := 1183) (by decide +kernel))) (by decide +kernel)
theorem k_1184 : (Cond.static yX6_plain) ∈ tb := tb_of (List.mem_append_right _ (List.mem_of_getElem? (i := 1184) (by decide +kernel))) (by decide +kernel)
theorem k_1185 : (Cond.code yX6_plain cX6_plain 2 (some .long)) ∈ tb := tb_of (List.mem_append_right _ (List.mem_of_getElem? (i := 1185) (by decide +kernel))) (by decide +kernel)
theorem k_1186 : (Cond.methodLink RL 60 yX6_length) ∈ tb := tb_of (List.mem_append_right _ (List.mem_of_getElem? (i := 1186) (by decide +kernel))) (by decide +kernel)
theorem k_1187 : (Cond.instanceMethod yX6_length) ∈ tb := tb_of (List.mem_append_right _ (List.mem_of_getElem? (i := 1187) (by decide +kernel))) (by decide +kernel)
theorem k_1188 : (Cond.selects RX6 yX6_length yX6_length) ∈ tb := tb_of (List.mem_append_right _ (List.mem_of_getElem? (i := 1188) (by decide +kernel))) (by decide +kernel)
theorem k_1189 : (Cond.code yX6_length cX6_length 4 (some .int)) ∈ tb := tb_of (List.mem_append_right _ (List.mem_of_getElem? (i := 1189) (by decide +kernel))) (by decide +kernel)
theorem k_1190 : (Cond.methodLink RX6 347 yX6_walks) ∈ tb := tb_of (List.mem_append_right _ (List.mem_of_getElem? (i := 1190) (by decide +kernel))) (by decide +kernel)
theorem k_1192 : (Cond.instanceMethod yX6_walks) ∈ tb := tb_of (List.mem_append_right _ (List.mem_of_getElem? (i := 1192) (by decide +kernel))) (by decide +kernel)
theorem k_1193 : (Cond.code yX6_walks cX6_walks 5 none) ∈ tb := tb_of (List.mem_append_right _ (List.mem_of_getElem? (i := 1193) (by decide +kernel))) (by decide +kernel)
theorem k_1194 : (Cond.methodLink RL 64 yX6_mean) ∈ tb := tb_of (List.mem_append_right _ (List.mem_of_getElem? (i := 1194) (by decide +kernel))) (by decide +kernel)
theorem k_1195 : (Cond.instanceMethod yX6_mean) ∈ tb := tb_of (List.mem_append_right _ (List.mem_of_getElem? (i := 1195) (by decide +kernel))) (by decide +kernel)
theorem k_1196 : (Cond.selects RX6 yX6_mean yX6_mean) ∈ tb := tb_of (List.mem_append_right _ (List.mem_of_getElem? (i := 1196) (by decide +kernel))) (by decide +kernel)
theorem k_1197 : (Cond.code yX6_mean cX6_mean 4 (some .int)) ∈ tb := tb_of (List.mem_append_right _ (List.mem_of_getElem? (i := 1197) (by decide +kernel))) (by decide +kernel)
theorem k_1198 : (Cond.constantLong RX6 351 (300)) ∈ tb := tb_of (List.mem_append_right _ (List.mem_of_getElem? (i := 1198) (by decide +kernel))) (by decide +kernel)
theorem k_1199 : (Cond.methodLink RX6 353 yX6_more) ∈ tb := tb_of (List.mem_append_right _ (List.mem_of_getElem? (i := 1199) (by decide +kernel))) (by decide +kernel)
theorem k_1201 : (Cond.instanceMethod yX6_more) ∈ tb := tb_of (List.mem_append_right _ (List.mem_of_getElem? (i := 1201) (by decide +kernel))) (by decide +kernel)
theorem k_1202 : (Cond.code yX6_more cX6_more 3 (some .long)) ∈ tb := tb_of (List.mem_append_right _ (List.mem_of_getElem? (i := 1202) (by decide +kernel))) (by decide +kernel)
theorem k_1203 : (Cond.methodLink RX6 357 yX6_areUnlike) ∈ tb := tb_of (List.mem_append_right _ (List.mem_of_getElem? (i := 1203) (by decide +kernel))) (by decide +kernel)
theorem k_1204 : (Cond.static yX6_areUnlike) ∈ tb := tb_of (List.mem_append_right _ (List.mem_of_getElem? (i := 1204) (by decide +kernel))) (by decide +kernel)
theorem k_1205 : (Cond.code yX6_areUnlike cX6_areUnlike 4 (some .boolean)) ∈ tb := tb_of (List.mem_append_right _ (List.mem_of_getElem? (i := 1205) (by decide +kernel))) (by decide +kernel)
theorem k_1206 : (Cond.methodLink RL 68 yX6_half) ∈ tb := tb_of (List.mem_append_right _ (List.mem_of_getElem? (i := 1206) (by decide +kernel))) (by decide +kernel)
theorem k_1207 : (Cond.instanceMethod yX6_half) ∈ tb := tb_of (List.mem_append_right _ (List.mem_of_getElem? (i := 1207) (by decide +kernel))) (by decide +kernel)
theorem k_1208 : (Cond.selects RX6 yX6_half yX6_half) ∈ tb := tb_of (List.mem_append_right _ (List.mem_of_getElem? (i := 1208) (by decide +kernel))) (by decide +kernel)
theorem k_1209 : (Cond.code yX6_half cX6_half 7 (some .int)) ∈ tb := tb_of (List.mem_append_right _ (List.mem_of_getElem? (i := 1209) (by decide +kernel))) (by decide +kernel)
theorem k_1210 : (Cond.methodLink RL 72 yX6_meet) ∈ tb := tb_of (List.mem_append_right _ (List.mem_of_getElem? (i := 1210) (by decide +kernel))) (by decide +kernel)
theorem k_1211 : (Cond.instanceMethod yX6_meet) ∈ tb := tb_of (List.mem_append_right _ (List.mem_of_getElem? (i := 1211) (by decide +kernel))) (by decide +kernel)
theorem k_1212 : (Cond.selects RX6 yX6_meet yX6_meet) ∈ tb := tb_of (List.mem_append_right _ (List.mem_of_getElem? (i := 1212) (by decide +kernel))) (by decide +kernel)
theorem k_1213 : (Cond.code yX6_meet cX6_meet 7 (some .int)) ∈ tb := tb_of (List.mem_append_right _ (List.mem_of_getElem? (i := 1213) (by decide +kernel))) (by decide +kernel)
theorem k_1214 : (Cond.methodLink RX6 367 yX6_areTwo) ∈ tb := tb_of (List.mem_append_right _ (List.mem_of_getElem? (i := 1214) (by decide +kernel))) (by decide +kernel)
theorem k_1216 : (Cond.instanceMethod yX6_areTwo) ∈ tb := tb_of (List.mem_append_right _ (List.mem_of_getElem? (i := 1216) (by decide +kernel))) (by decide +kernel)
theorem k_1217 : (Cond.code yX6_areTwo cX6_areTwo 3 (some .boolean)) ∈ tb := tb_of (List.mem_append_right _ (List.mem_of_getElem? (i := 1217) (by decide +kernel))) (by decide +kernel)
theorem k_1218 : (Cond.constantLong RX6 370 (3)) ∈ tb := tb_of (List.mem_append_right _ (List.mem_of_getElem? (i := 1218) (by decide +kernel))) (by decide +kernel)
theorem k_1219 : (Cond.methodLink RX6 372 yX6_lays) ∈ tb := tb_of (List.mem_append_right _ (List.mem_of_getElem? (i := 1219) (by decide +kernel))) (by decide +kernel)
theorem k_1221 : (Cond.instanceMethod yX6_lays) ∈ tb := tb_of (List.mem_append_right _ (List.mem_of_getElem? (i := 1221) (by decide +kernel))) (by decide +kernel)
theorem k_1222 : (Cond.code yX6_lays cX6_lays 4 none) ∈ tb := tb_of (List.mem_append_right _ (List.mem_of_getElem? (i := 1222) (by decide +kernel))) (by decide +kernel)
theorem k_1223 : (Cond.methodLink RX6 364 yX6_doMeet) ∈ tb := tb_of (List.mem_append_right _ (List.mem_of_getElem? (i := 1223) (by decide +kernel))) (by decide +kernel)
theorem k_1225 : (Cond.instanceMethod yX6_doMeet) ∈ tb := tb_of (List.mem_append_right _ (List.mem_of_getElem? (i := 1225) (by decide +kernel))) (by decide +kernel)
theorem k_1226 : (Cond.code yX6_doMeet cX6_doMeet 4 (some .boolean)) ∈ tb := tb_of (List.mem_append_right _ (List.mem_of_getElem? (i := 1226) (by decide +kernel))) (by decide +kernel)
theorem k_1227 : (Cond.methodLink RX6 361 yX6_apartAt) ∈ tb := tb_of (List.mem_append_right _ (List.mem_of_getElem? (i := 1227) (by decide +kernel))) (by decide +kernel)
theorem k_1229 : (Cond.instanceMethod yX6_apartAt) ∈ tb := tb_of (List.mem_append_right _ (List.mem_of_getElem? (i := 1229) (by decide +kernel))) (by decide +kernel)
theorem k_1230 : (Cond.code yX6_apartAt cX6_apartAt 3 (some .int)) ∈ tb := tb_of (List.mem_append_right _ (List.mem_of_getElem? (i := 1230) (by decide +kernel))) (by decide +kernel)
theorem k_1231 : (Cond.methodLink RX6 376 yX6_firstMeet) ∈ tb := tb_of (List.mem_append_right _ (List.mem_of_getElem? (i := 1231) (by decide +kernel))) (by decide +kernel)
theorem k_1233 : (Cond.instanceMethod yX6_firstMeet) ∈ tb := tb_of (List.mem_append_right _ (List.mem_of_getElem? (i := 1233) (by decide +kernel))) (by decide +kernel)
theorem k_1234 : (Cond.code yX6_firstMeet cX6_firstMeet 3 (some .int)) ∈ tb := tb_of (List.mem_append_right _ (List.mem_of_getElem? (i := 1234) (by decide +kernel))) (by decide +kernel)
theorem k_1235 : (Cond.methodLink RL 77 yX6_when) ∈ tb := tb_of (List.mem_append_right _ (List.mem_of_getElem? (i := 1235) (by decide +kernel))) (by decide +kernel)
theorem k_1236 : (Cond.instanceMethod yX6_when) ∈ tb := tb_of (List.mem_append_right _ (List.mem_of_getElem? (i := 1236) (by decide +kernel))) (by decide +kernel)
theorem k_1237 : (Cond.selects RX6 yX6_when yX6_when) ∈ tb := tb_of (List.mem_append_right _ (List.mem_of_getElem? (i := 1237) (by decide +kernel))) (by decide +kernel)
theorem k_1238 : (Cond.code yX6_when cX6_when 9 (some .long)) ∈ tb := tb_of (List.mem_append_right _ (List.mem_of_getElem? (i := 1238) (by decide +kernel))) (by decide +kernel)
theorem k_1239 : (Cond.constantLong RX6 379 (-4611686018427387904)) ∈ tb := tb_of (List.mem_append_right _ (List.mem_of_getElem? (i := 1239) (by decide +kernel))) (by decide +kernel)
theorem k_1240 : (Cond.methodLink RX6 381 yX6_lowest) ∈ tb := tb_of (List.mem_append_right _ (List.mem_of_getElem? (i := 1240) (by decide +kernel))) (by decide +kernel)
theorem k_1241 : (Cond.static yX6_lowest) ∈ tb := tb_of (List.mem_append_right _ (List.mem_of_getElem? (i := 1241) (by decide +kernel))) (by decide +kernel)
theorem k_1242 : (Cond.code yX6_lowest cX6_lowest 11 (some .long)) ∈ tb := tb_of (List.mem_append_right _ (List.mem_of_getElem? (i := 1242) (by decide +kernel))) (by decide +kernel)
theorem k_1243 : (Cond.methodLink RL 81 yX6_sure) ∈ tb := tb_of (List.mem_append_right _ (List.mem_of_getElem? (i := 1243) (by decide +kernel))) (by decide +kernel)
theorem k_1244 : (Cond.instanceMethod yX6_sure) ∈ tb := tb_of (List.mem_append_right _ (List.mem_of_getElem? (i := 1244) (by decide +kernel))) (by decide +kernel)
theorem k_1245 : (Cond.selects RX6 yX6_sure yX6_sure) ∈ tb := tb_of (List.mem_append_right _ (List.mem_of_getElem? (i := 1245) (by decide +kernel))) (by decide +kernel)
theorem k_1246 : (Cond.code yX6_sure cX6_sure 4 (some .int)) ∈ tb := tb_of (List.mem_append_right _ (List.mem_of_getElem? (i := 1246) (by decide +kernel))) (by decide +kernel)
theorem k_1247 : (Cond.methodLink RL 85 yX6_apart) ∈ tb := tb_of (List.mem_append_right _ (List.mem_of_getElem? (i := 1247) (by decide +kernel))) (by decide +kernel)
theorem k_1248 : (Cond.instanceMethod yX6_apart) ∈ tb := tb_of (List.mem_append_right _ (List.mem_of_getElem? (i := 1248) (by decide +kernel))) (by decide +kernel)
theorem k_1249 : (Cond.selects RX6 yX6_apart yX6_apart) ∈ tb := tb_of (List.mem_append_right _ (List.mem_of_getElem? (i := 1249) (by decide +kernel))) (by decide +kernel)
theorem k_1250 : (Cond.code yX6_apart cX6_apart 9 (some .int)) ∈ tb := tb_of (List.mem_append_right _ (List.mem_of_getElem? (i := 1250) (by decide +kernel))) (by decide +kernel)
theorem k_1251 : (Cond.methodLink RL 89 yX6_fits) ∈ tb := tb_of (List.mem_append_right _ (List.mem_of_getElem? (i := 1251) (by decide +kernel))) (by decide +kernel)
theorem k_1252 : (Cond.instanceMethod yX6_fits) ∈ tb := tb_of (List.mem_append_right _ (List.mem_of_getElem? (i := 1252) (by decide +kernel))) (by decide +kernel)
theorem k_1253 : (Cond.selects RX6 yX6_fits yX6_fits) ∈ tb := tb_of (List.mem_append_right _ (List.mem_of_getElem? (i := 1253) (by decide +kernel))) (by decide +kernel)
theorem k_1254 : (Cond.code yX6_fits cX6_fits 5 (some .int)) ∈ tb := tb_of (List.mem_append_right _ (List.mem_of_getElem? (i := 1254) (by decide +kernel))) (by decide +kernel)
theorem k_1255 : (Cond.methodLink RX6 390 yX6_notesBad) ∈ tb := tb_of (List.mem_append_right _ (List.mem_of_getElem? (i := 1255) (by decide +kernel))) (by decide +kernel)
theorem k_1257 : (Cond.instanceMethod yX6_notesBad) ∈ tb := tb_of (List.mem_append_right _ (List.mem_of_getElem? (i := 1257) (by decide +kernel))) (by decide +kernel)
theorem k_1258 : (Cond.code yX6_notesBad cX6_notesBad 3 (some .int)) ∈ tb := tb_of (List.mem_append_right _ (List.mem_of_getElem? (i := 1258) (by decide +kernel))) (by decide +kernel)
theorem k_1259 : (Cond.methodLink RX6 385 yX6_isSheet) ∈ tb := tb_of (List.mem_append_right _ (List.mem_of_getElem? (i := 1259) (by decide +kernel))) (by decide +kernel)
theorem k_1260 : (Cond.static yX6_isSheet) ∈ tb := tb_of (List.mem_append_right _ (List.mem_of_getElem? (i := 1260) (by decide +kernel))) (by decide +kernel)
theorem k_1261 : (Cond.code yX6_isSheet cX6_isSheet 1 (some .boolean)) ∈ tb := tb_of (List.mem_append_right _ (List.mem_of_getElem? (i := 1261) (by decide +kernel))) (by decide +kernel)
theorem k_1262 : (Cond.methodLink RX6 393 yX6_isSo) ∈ tb := tb_of (List.mem_append_right _ (List.mem_of_getElem? (i := 1262) (by decide +kernel))) (by decide +kernel)
theorem k_1264 : (Cond.instanceMethod yX6_isSo) ∈ tb := tb_of (List.mem_append_right _ (List.mem_of_getElem? (i := 1264) (by decide +kernel))) (by decide +kernel)
theorem k_1265 : (Cond.code yX6_isSo cX6_isSo 7 (some .boolean)) ∈ tb := tb_of (List.mem_append_right _ (List.mem_of_getElem? (i := 1265) (by decide +kernel))) (by decide +kernel)
theorem k_1266 : (Cond.constantLong RX6 388 (1000)) ∈ tb := tb_of (List.mem_append_right _ (List.mem_of_getElem? (i := 1266) (by decide +kernel))) (by decide +kernel)
theorem k_1267 : (Cond.methodLink RL 93 yX6_wrong) ∈ tb := tb_of (List.mem_append_right _ (List.mem_of_getElem? (i := 1267) (by decide +kernel))) (by decide +kernel)
theorem k_1268 : (Cond.instanceMethod yX6_wrong) ∈ tb := tb_of (List.mem_append_right _ (List.mem_of_getElem? (i := 1268) (by decide +kernel))) (by decide +kernel)
theorem k_1269 : (Cond.selects RX6 yX6_wrong yX6_wrong) ∈ tb := tb_of (List.mem_append_right _ (List.mem_of_getElem? (i := 1269) (by decide +kernel))) (by decide +kernel)
theorem k_1270 : (Cond.code yX6_wrong cX6_wrong 7 (some .int)) ∈ tb := tb_of (List.mem_append_right _ (List.mem_of_getElem? (i := 1270) (by decide +kernel))) (by decide +kernel)
theorem k_1271 : (Cond.methodLink RL 97 yX6_posts) ∈ tb := tb_of (List.mem_append_right _ (List.mem_of_getElem? (i := 1271) (by decide +kernel))) (by decide +kernel)
theorem k_1272 : (Cond.instanceMethod yX6_posts) ∈ tb := tb_of (List.mem_append_right _ (List.mem_of_getElem? (i := 1272) (by decide +kernel))) (by decide +kernel)
theorem k_1273 : (Cond.selects RX6 yX6_posts yX6_posts) ∈ tb := tb_of (List.mem_append_right _ (List.mem_of_getElem? (i := 1273) (by decide +kernel))) (by decide +kernel)
theorem k_1274 : (Cond.code yX6_posts cX6_posts 4 (some .int)) ∈ tb := tb_of (List.mem_append_right _ (List.mem_of_getElem? (i := 1274) (by decide +kernel))) (by decide +kernel)
theorem k_1275 : (Cond.methodLink RX6 397 yX6_bitsOf) ∈ tb := tb_of (List.mem_append_right _ (List.mem_of_getElem? (i := 1275) (by decide +kernel))) (by decide +kernel)
theorem k_1276 : (Cond.static yX6_bitsOf) ∈ tb := tb_of (List.mem_append_right _ (List.mem_of_getElem? (i := 1276) (by decide +kernel))) (by decide +kernel)
theorem k_1277 : (Cond.code yX6_bitsOf cX6_bitsOf 3 (some .int)) ∈ tb := tb_of (List.mem_append_right _ (List.mem_of_getElem? (i := 1277) (by decide +kernel))) (by decide +kernel)
theorem k_1278 : (Cond.methodLink RX6 400 yX6_partsAll) ∈ tb := tb_of (List.mem_append_right _ (List.mem_of_getElem? (i := 1278) (by decide +kernel))) (by decide +kernel)
theorem k_1280 : (Cond.instanceMethod yX6_partsAll) ∈ tb := tb_of (List.mem_append_right _ (List.mem_of_getElem? (i := 1280) (by decide +kernel))) (by decide +kernel)
theorem k_1281 : (Cond.code yX6_partsAll cX6_partsAll 6 (some .boolean)) ∈ tb := tb_of (List.mem_append_right _ (List.mem_of_getElem? (i := 1281) (by decide +kernel))) (by decide +kernel)
theorem k_1282 : (Cond.methodLink RL 101 yX6_beads) ∈ tb := tb_of (List.mem_append_right _ (List.mem_of_getElem? (i := 1282) (by decide +kernel))) (by decide +kernel)
theorem k_1283 : (Cond.instanceMethod yX6_beads) ∈ tb := tb_of (List.mem_append_right _ (List.mem_of_getElem? (i := 1283) (by decide +kernel))) (by decide +kernel)
theorem k_1284 : (Cond.selects RX6 yX6_beads yX6_beads) ∈ tb := tb_of (List.mem_append_right _ (List.mem_of_getElem? (i := 1284) (by decide +kernel))) (by decide +kernel)
theorem k_1285 : (Cond.code yX6_beads cX6_beads 8 (some .int)) ∈ tb := tb_of (List.mem_append_right _ (List.mem_of_getElem? (i := 1285) (by decide +kernel))) (by decide +kernel)
theorem k_1286 : (Cond.methodLink RX6 403 yX6_ringBad) ∈ tb := tb_of (List.mem_append_right _ (List.mem_of_getElem? (i := 1286) (by decide +kernel))) (by decide +kernel)
theorem k_1288 : (Cond.instanceMethod yX6_ringBad) ∈ tb := tb_of (List.mem_append_right _ (List.mem_of_getElem? (i := 1288) (by decide +kernel))) (by decide +kernel)
theorem k_1289 : (Cond.code yX6_ringBad cX6_ringBad 2 (some .int)) ∈ tb := tb_of (List.mem_append_right _ (List.mem_of_getElem? (i := 1289) (by decide +kernel))) (by decide +kernel)
theorem k_1290 : (Cond.methodLink RX6 406 yX6_ring) ∈ tb := tb_of (List.mem_append_right _ (List.mem_of_getElem? (i := 1290) (by decide +kernel))) (by decide +kernel)
theorem k_1292 : (Cond.instanceMethod yX6_ring) ∈ tb := tb_of (List.mem_append_right _ (List.mem_of_getElem? (i := 1292) (by decide +kernel))) (by decide +kernel)
theorem k_1293 : (Cond.code yX6_ring cX6_ring 3 (some .int)) ∈ tb := tb_of (List.mem_append_right _ (List.mem_of_getElem? (i := 1293) (by decide +kernel))) (by decide +kernel)
theorem k_1294 : (Cond.methodLink RL 105 yX6_heat) ∈ tb := tb_of (List.mem_append_right _ (List.mem_of_getElem? (i := 1294) (by decide +kernel))) (by decide +kernel)
theorem k_1295 : (Cond.instanceMethod yX6_heat) ∈ tb := tb_of (List.mem_append_right _ (List.mem_of_getElem? (i := 1295) (by decide +kernel))) (by decide +kernel)
theorem k_1296 : (Cond.selects RX6 yX6_heat yX6_heat) ∈ tb := tb_of (List.mem_append_right _ (List.mem_of_getElem? (i := 1296) (by decide +kernel))) (by decide +kernel)
theorem k_1297 : (Cond.code yX6_heat cX6_heat 4 (some .int)) ∈ tb := tb_of (List.mem_append_right _ (List.mem_of_getElem? (i := 1297) (by decide +kernel))) (by decide +kernel)
theorem k_1298 : (Cond.methodLink RX6 409 yX6_across) ∈ tb := tb_of (List.mem_append_right _ (List.mem_of_getElem? (i := 1298) (by decide +kernel))) (by decide +kernel)
theorem k_1300 : (Cond.instanceMethod yX6_across) ∈ tb := tb_of (List.mem_append_right _ (List.mem_of_getElem? (i := 1300) (by decide +kernel))) (by decide +kernel)
theorem k_1301 : (Cond.code yX6_across cX6_across 3 (some .long)) ∈ tb := tb_of (List.mem_append_right _ (List.mem_of_getElem? (i := 1301) (by decide +kernel))) (by decide +kernel)
theorem k_1302 : (Cond.methodLink RL 109 yX6_drawn) ∈ tb := tb_of (List.mem_append_right _ (List.mem_of_getElem? (i := 1302) (by decide +kernel))) (by decide +kernel)
theorem k_1303 : (Cond.instanceMethod yX6_drawn) ∈ tb := tb_of (List.mem_append_right _ (List.mem_of_getElem? (i := 1303) (by decide +kernel))) (by decide +kernel)
theorem k_1304 : (Cond.selects RX6 yX6_drawn yX6_drawn) ∈ tb := tb_of (List.mem_append_right _ (List.mem_of_getElem? (i := 1304) (by decide +kernel))) (by decide +kernel)
theorem k_1305 : (Cond.code yX6_drawn cX6_drawn 4 (some .int)) ∈ tb := tb_of (List.mem_append_right _ (List.mem_of_getElem? (i := 1305) (by decide +kernel))) (by decide +kernel)
theorem k_1306 : (Cond.constantLong RX6 413 (8)) ∈ tb := tb_of (List.mem_append_right _ (List.mem_of_getElem? (i := 1306) (by decide +kernel))) (by decide +kernel)
theorem k_1307 : (Cond.methodLink RX6 415 yX6_draws) ∈ tb := tb_of (List.mem_append_right _ (List.mem_of_getElem? (i := 1307) (by decide +kernel))) (by decide +kernel)
theorem k_1309 : (Cond.instanceMethod yX6_draws) ∈ tb := tb_of (List.mem_append_right _ (List.mem_of_getElem? (i := 1309) (by decide +kernel))) (by decide +kernel)
theorem k_1310 : (Cond.code yX6_draws cX6_draws 6 (some .int)) ∈ tb := tb_of (List.mem_append_right _ (List.mem_of_getElem? (i := 1310) (by decide +kernel))) (by decide +kernel)
theorem k_1311 : (Cond.constant RX6 412 (1103515245)) ∈ tb := tb_of (List.mem_append_right _ (List.mem_of_getElem? (i := 1311) (by decide +kernel))) (by decide +kernel)
theorem k_1312 : (Cond.methodLink RL 114 yX6_chance) ∈ tb := tb_of (List.mem_append_right _ (List.mem_of_getElem? (i := 1312) (by decide +kernel))) (by decide +kernel)
theorem k_1313 : (Cond.instanceMethod yX6_chance) ∈ tb := tb_of (List.mem_append_right _ (List.mem_of_getElem? (i := 1313) (by decide +kernel))) (by decide +kernel)
theorem k_1314 : (Cond.selects RX6 yX6_chance yX6_chance) ∈ tb := tb_of (List.mem_append_right _ (List.mem_of_getElem? (i := 1314) (by decide +kernel))) (by decide +kernel)
theorem k_1315 : (Cond.code yX6_chance cX6_chance 8 (some .long)) ∈ tb := tb_of (List.mem_append_right _ (List.mem_of_getElem? (i := 1315) (by decide +kernel))) (by decide +kernel)
theorem k_1316 : (Cond.constantLong RX6 418 (20)) ∈ tb := tb_of (List.mem_append_right _ (List.mem_of_getElem? (i := 1316) (by decide +kernel))) (by decide +kernel)
theorem k_1317 : (Cond.methodLink RL 118 yX6_image) ∈ tb := tb_of (List.mem_append_right _ (List.mem_of_getElem? (i := 1317) (by decide +kernel))) (by decide +kernel)
theorem k_1318 : (Cond.instanceMethod yX6_image) ∈ tb := tb_of (List.mem_append_right _ (List.mem_of_getElem? (i := 1318) (by decide +kernel))) (by decide +kernel)
theorem k_1319 : (Cond.selects RX6 yX6_image yX6_image) ∈ tb := tb_of (List.mem_append_right _ (List.mem_of_getElem? (i := 1319) (by decide +kernel))) (by decide +kernel)
theorem k_1320 : (Cond.code yX6_image cX6_image 2 (some .int)) ∈ tb := tb_of (List.mem_append_right _ (List.mem_of_getElem? (i := 1320) (by decide +kernel))) (by decide +kernel)
theorem k_1321 : (Cond.methodLink RL 122 yX6_back) ∈ tb := tb_of (List.mem_append_right _ (List.mem_of_getElem? (i := 1321) (by decide +kernel))) (by decide +kernel)
theorem k_1322 : (Cond.instanceMethod yX6_back) ∈ tb := tb_of (List.mem_append_right _ (List.mem_of_getElem? (i := 1322) (by decide +kernel))) (by decide +kernel)
theorem k_1323 : (Cond.selects RX6 yX6_back yX6_back) ∈ tb := tb_of (List.mem_append_right _ (List.mem_of_getElem? (i := 1323) (by decide +kernel))) (by decide +kernel)
theorem k_1324 : (Cond.code yX6_back cX6_back 2 (some .int)) ∈ tb := tb_of (List.mem_append_right _ (List.mem_of_getElem? (i := 1324) (by decide +kernel))) (by decide +kernel)
theorem k_1325 : (Cond.methodLink RL 126 yX6_count) ∈ tb := tb_of (List.mem_append_right _ (List.mem_of_getElem? (i := 1325) (by decide +kernel))) (by decide +kernel)
theorem k_1326 : (Cond.instanceMethod yX6_count) ∈ tb := tb_of (List.mem_append_right _ (List.mem_of_getElem? (i := 1326) (by decide +kernel))) (by decide +kernel)
theorem k_1327 : (Cond.selects RX6 yX6_count yX6_count) ∈ tb := tb_of (List.mem_append_right _ (List.mem_of_getElem? (i := 1327) (by decide +kernel))) (by decide +kernel)
theorem k_1328 : (Cond.code yX6_count cX6_count 4 (some .int)) ∈ tb := tb_of (List.mem_append_right _ (List.mem_of_getElem? (i := 1328) (by decide +kernel))) (by decide +kernel)
theorem k_1329 : (Cond.methodLink RL 130 yX6_sheet) ∈ tb := tb_of (List.mem_append_right _ (List.mem_of_getElem? (i := 1329) (by decide +kernel))) (by decide +kernel)
theorem k_1330 : (Cond.instanceMethod yX6_sheet) ∈ tb := tb_of (List.mem_append_right _ (List.mem_of_getElem? (i := 1330) (by decide +kernel))) (by decide +kernel)
theorem k_1331 : (Cond.selects RX6 yX6_sheet yX6_sheet) ∈ tb := tb_of (List.mem_append_right _ (List.mem_of_getElem? (i := 1331) (by decide +kernel))) (by decide +kernel)
theorem k_1332 : (Cond.code yX6_sheet cX6_sheet 5 (some .int)) ∈ tb := tb_of (List.mem_append_right _ (List.mem_of_getElem? (i := 1332) (by decide +kernel))) (by decide +kernel)
theorem k_1333 : (Cond.constantLong RX6 426 (-1)) ∈ tb := tb_of (List.mem_append_right _ (List.mem_of_getElem? (i := 1333) (by decide +kernel))) (by decide +kernel)
theorem k_1334 : (Cond.methodLink RL 134 yX6_cell) ∈ tb := tb_of (List.mem_append_right _ (List.mem_of_getElem? (i := 1334) (by decide +kernel))) (by decide +kernel)
theorem k_1335 : (Cond.instanceMethod yX6_cell) ∈ tb := tb_of (List.mem_append_right _ (List.mem_of_getElem? (i := 1335) (by decide +kernel))) (by decide +kernel)
theorem k_1336 : (Cond.selects RX6 yX6_cell yX6_cell) ∈ tb := tb_of (List.mem_append_right _ (List.mem_of_getElem? (i := 1336) (by decide +kernel))) (by decide +kernel)
theorem k_1337 : (Cond.code yX6_cell cX6_cell 4 (some .int)) ∈ tb := tb_of (List.mem_append_right _ (List.mem_of_getElem? (i := 1337) (by decide +kernel))) (by decide +kernel)
theorem k_1338 : (Cond.methodLink RL 139 yX6_copy) ∈ tb := tb_of (List.mem_append_right _ (List.mem_of_getElem? (i := 1338) (by decide +kernel))) (by decide +kernel)
theorem k_1339 : (Cond.instanceMethod yX6_copy) ∈ tb := tb_of (List.mem_append_right _ (List.mem_of_getElem? (i := 1339) (by decide +kernel))) (by decide +kernel)
theorem k_1340 : (Cond.selects RX6 yX6_copy yX6_copy) ∈ tb := tb_of (List.mem_append_right _ (List.mem_of_getElem? (i := 1340) (by decide +kernel))) (by decide +kernel)
theorem k_1341 : (Cond.code yX6_copy cX6_copy 9 (some .int)) ∈ tb := tb_of (List.mem_append_right _ (List.mem_of_getElem? (i := 1341) (by decide +kernel))) (by decide +kernel)
theorem k_1342 : (Cond.methodLink RL 144 yX6_points) ∈ tb := tb_of (List.mem_append_right _ (List.mem_of_getElem? (i := 1342) (by decide +kernel))) (by decide +kernel)
theorem k_1343 : (Cond.instanceMethod yX6_points) ∈ tb := tb_of (List.mem_append_right _ (List.mem_of_getElem? (i := 1343) (by decide +kernel))) (by decide +kernel)
theorem k_1344 : (Cond.selects RX6 yX6_points yX6_points) ∈ tb := tb_of (List.mem_append_right _ (List.mem_of_getElem? (i := 1344) (by decide +kernel))) (by decide +kernel)
theorem k_1345 : (Cond.code yX6_points cX6_points 8 (some .int)) ∈ tb := tb_of (List.mem_append_right _ (List.mem_of_getElem? (i := 1345) (by decide +kernel))) (by decide +kernel)
theorem k_1346 : (Cond.constantLong RX6 428 (13)) ∈ tb := tb_of (List.mem_append_right _ (List.mem_of_getElem? (i := 1346) (by decide +kernel))) (by decide +kernel)
theorem k_1347 : (Cond.methodLink RX6 430 yX6_point) ∈ tb := tb_of (List.mem_append_right _ (List.mem_of_getElem? (i := 1347) (by decide +kernel))) (by decide +kernel)
theorem k_1348 : (Cond.methodLink RL 148 yX6_taken) ∈ tb := tb_of (List.mem_append_right _ (List.mem_of_getElem? (i := 1348) (by decide +kernel))) (by decide +kernel)
theorem k_1349 : (Cond.instanceMethod yX6_taken) ∈ tb := tb_of (List.mem_append_right _ (List.mem_of_getElem? (i := 1349) (by decide +kernel))) (by decide +kernel)
theorem k_1350 : (Cond.selects RX6 yX6_taken yX6_taken) ∈ tb := tb_of (List.mem_append_right _ (List.mem_of_getElem? (i := 1350) (by decide +kernel))) (by decide +kernel)
theorem k_1351 : (Cond.code yX6_taken cX6_taken 4 (some .int)) ∈ tb := tb_of (List.mem_append_right _ (List.mem_of_getElem? (i := 1351) (by decide +kernel))) (by decide +kernel)
theorem k_1352 : (Cond.methodLink RX6 433 yX6_over) ∈ tb := tb_of (List.mem_append_right _ (List.mem_of_getElem? (i := 1352) (by decide +kernel))) (by decide +kernel)
theorem k_1353 : (Cond.static yX6_over) ∈ tb := tb_of (List.mem_append_right _ (List.mem_of_getElem? (i := 1353) (by decide +kernel))) (by decide +kernel)
theorem k_1354 : (Cond.code yX6_over cX6_over 1 (some .int)) ∈ tb := tb_of (List.mem_append_right _ (List.mem_of_getElem? (i := 1354) (by decide +kernel))) (by decide +kernel)
theorem k_1355 : (Cond.fieldLink RJ0 9 "java/lang/String" "value" "[B") ∈ tb := tb_of (List.mem_append_right _ (List.mem_of_getElem? (i := 1355) (by decide +kernel))) (by decide +kernel)
theorem k_1356 : (Cond.fieldLink RJ0 15 "java/lang/String" "coder" "B") ∈ tb := tb_of (List.mem_append_right _ (List.mem_of_getElem? (i := 1356) (by decide +kernel))) (by decide +kernel)
theorem s_0 : (Cond.selects RX5 yX5_changeLong yX5_changeLong) ∈ tb := tb_of (List.mem_append_left _ (List.mem_of_getElem? (i := 0) (by decide +kernel))) (by decide +kernel)
theorem s_1 : (Cond.selects RX5 yX5_changeNumber yX5_changeNumber) ∈ tb := tb_of (List.mem_append_left _ (List.mem_of_getElem? (i := 1) (by decide +kernel))) (by decide +kernel)
theorem s_2 : (Cond.selects RX5 yX5_addPoint yX5_addPoint) ∈ tb := tb_of (List.mem_append_left _ (List.mem_of_getElem? (i := 2) (by decide +kernel))) (by decide +kernel)
theorem s_3 : (Cond.selects RX2 yX2_advance yX2_advance) ∈ tb := tb_of (List.mem_append_left _ (List.mem_of_getElem? (i := 3) (by decide +kernel))) (by decide +kernel)
theorem s_4 : (Cond.selects RX2 yX2_readWord yX2_readWord) ∈ tb := tb_of (List.mem_append_left _ (List.mem_of_getElem? (i := 4) (by decide +kernel))) (by decide +kernel)
theorem s_5 : (Cond.selects RX2 yX2_isWord yX2_isWord) ∈ tb := tb_of (List.mem_append_left _ (List.mem_of_getElem? (i := 5) (by decide +kernel))) (by decide +kernel)
theorem s_6 : (Cond.selects RX2 yX2_readNumber yX2_readNumber) ∈ tb := tb_of (List.mem_append_left _ (List.mem_of_getElem? (i := 6) (by decide +kernel))) (by decide +kernel)
theorem s_7 : (Cond.selects RX2 yX2_expect yX2_expect) ∈ tb := tb_of (List.mem_append_left _ (List.mem_of_getElem? (i := 7) (by decide +kernel))) (by decide +kernel)
theorem s_8 : (Cond.selects RX2 yX2_refuse yX2_refuse) ∈ tb := tb_of (List.mem_append_left _ (List.mem_of_getElem? (i := 8) (by decide +kernel))) (by decide +kernel)
theorem s_9 : (Cond.selects RX2 yX2_phrase yX2_phrase) ∈ tb := tb_of (List.mem_append_left _ (List.mem_of_getElem? (i := 9) (by decide +kernel))) (by decide +kernel)
theorem s_10 : (Cond.selects RX2 yX2_one yX2_one) ∈ tb := tb_of (List.mem_append_left _ (List.mem_of_getElem? (i := 10) (by decide +kernel))) (by decide +kernel)
theorem s_11 : (Cond.selects RX2 yX2_joins yX2_joins) ∈ tb := tb_of (List.mem_append_left _ (List.mem_of_getElem? (i := 11) (by decide +kernel))) (by decide +kernel)
theorem s_12 : (Cond.selects RX4 yX4_unbound yX4_unbound) ∈ tb := tb_of (List.mem_append_left _ (List.mem_of_getElem? (i := 12) (by decide +kernel))) (by decide +kernel)
theorem s_13 : (Cond.selects RX4 yX4_late yX4_late) ∈ tb := tb_of (List.mem_append_left _ (List.mem_of_getElem? (i := 13) (by decide +kernel))) (by decide +kernel)
theorem s_14 : (Cond.selects RX4 yX4_byPoints yX4_byPoints) ∈ tb := tb_of (List.mem_append_left _ (List.mem_of_getElem? (i := 14) (by decide +kernel))) (by decide +kernel)
theorem s_15 : (Cond.selects RX4 yX4_turned yX4_turned) ∈ tb := tb_of (List.mem_append_left _ (List.mem_of_getElem? (i := 15) (by decide +kernel))) (by decide +kernel)
theorem s_16 : (Cond.selects RX5 yX5_ruled yX5_ruled) ∈ tb := tb_of (List.mem_append_left _ (List.mem_of_getElem? (i := 16) (by decide +kernel))) (by decide +kernel)
theorem s_17 : (Cond.selects RX5 yX5_layWalked yX5_layWalked) ∈ tb := tb_of (List.mem_append_left _ (List.mem_of_getElem? (i := 17) (by decide +kernel))) (by decide +kernel)
theorem s_18 : (Cond.selects RX5 yX5_beyondMean yX5_beyondMean) ∈ tb := tb_of (List.mem_append_left _ (List.mem_of_getElem? (i := 18) (by decide +kernel))) (by decide +kernel)
theorem s_19 : (Cond.selects RX5 yX5_halfWalked yX5_halfWalked) ∈ tb := tb_of (List.mem_append_left _ (List.mem_of_getElem? (i := 19) (by decide +kernel))) (by decide +kernel)
theorem s_20 : (Cond.selects RX5 yX5_bestMinute yX5_bestMinute) ∈ tb := tb_of (List.mem_append_left _ (List.mem_of_getElem? (i := 20) (by decide +kernel))) (by decide +kernel)
theorem s_21 : (Cond.selects RX5 yX5_areTwo yX5_areTwo) ∈ tb := tb_of (List.mem_append_left _ (List.mem_of_getElem? (i := 21) (by decide +kernel))) (by decide +kernel)
theorem s_22 : (Cond.selects RX5 yX5_layTwo yX5_layTwo) ∈ tb := tb_of (List.mem_append_left _ (List.mem_of_getElem? (i := 22) (by decide +kernel))) (by decide +kernel)
theorem s_23 : (Cond.selects RX5 yX5_firstMeeting yX5_firstMeeting) ∈ tb := tb_of (List.mem_append_left _ (List.mem_of_getElem? (i := 23) (by decide +kernel))) (by decide +kernel)
theorem s_24 : (Cond.selects RX5 yX5_gap yX5_gap) ∈ tb := tb_of (List.mem_append_left _ (List.mem_of_getElem? (i := 24) (by decide +kernel))) (by decide +kernel)
theorem s_25 : (Cond.selects RX5 yX5_lastMeeting yX5_lastMeeting) ∈ tb := tb_of (List.mem_append_left _ (List.mem_of_getElem? (i := 25) (by decide +kernel))) (by decide +kernel)
theorem s_26 : (Cond.selects RX5 yX5_meetIn yX5_meetIn) ∈ tb := tb_of (List.mem_append_left _ (List.mem_of_getElem? (i := 26) (by decide +kernel))) (by decide +kernel)
theorem s_27 : (Cond.selects RX5 yX5_meetings yX5_meetings) ∈ tb := tb_of (List.mem_append_left _ (List.mem_of_getElem? (i := 27) (by decide +kernel))) (by decide +kernel)
theorem s_28 : (Cond.selects RX5 yX5_nearMinutes yX5_nearMinutes) ∈ tb := tb_of (List.mem_append_left _ (List.mem_of_getElem? (i := 28) (by decide +kernel))) (by decide +kernel)
theorem s_29 : (Cond.selects RX5 yX5_farthestMinute yX5_farthestMinute) ∈ tb := tb_of (List.mem_append_left _ (List.mem_of_getElem? (i := 29) (by decide +kernel))) (by decide +kernel)
theorem s_30 : (Cond.selects RX5 yX5_fitsByRule yX5_fitsByRule) ∈ tb := tb_of (List.mem_append_left _ (List.mem_of_getElem? (i := 30) (by decide +kernel))) (by decide +kernel)
theorem s_31 : (Cond.selects RX5 yX5_agrees yX5_agrees) ∈ tb := tb_of (List.mem_append_left _ (List.mem_of_getElem? (i := 31) (by decide +kernel))) (by decide +kernel)
theorem s_32 : (Cond.selects RX5 yX5_clocks yX5_clocks) ∈ tb := tb_of (List.mem_append_left _ (List.mem_of_getElem? (i := 32) (by decide +kernel))) (by decide +kernel)
theorem s_33 : (Cond.selects RX5 yX5_fitsBy yX5_fitsBy) ∈ tb := tb_of (List.mem_append_left _ (List.mem_of_getElem? (i := 33) (by decide +kernel))) (by decide +kernel)
theorem s_34 : (Cond.selects RX5 yX5_nearestClock yX5_nearestClock) ∈ tb := tb_of (List.mem_append_left _ (List.mem_of_getElem? (i := 34) (by decide +kernel))) (by decide +kernel)
theorem s_35 : (Cond.selects RX5 yX5_layUnlike yX5_layUnlike) ∈ tb := tb_of (List.mem_append_left _ (List.mem_of_getElem? (i := 35) (by decide +kernel))) (by decide +kernel)
theorem s_36 : (Cond.selects RX5 yX5_unlikePosts yX5_unlikePosts) ∈ tb := tb_of (List.mem_append_left _ (List.mem_of_getElem? (i := 36) (by decide +kernel))) (by decide +kernel)
theorem s_37 : (Cond.selects RX5 yX5_fewestPosts yX5_fewestPosts) ∈ tb := tb_of (List.mem_append_left _ (List.mem_of_getElem? (i := 37) (by decide +kernel))) (by decide +kernel)
theorem s_38 : (Cond.selects RX5 yX5_tellsAllApart yX5_tellsAllApart) ∈ tb := tb_of (List.mem_append_left _ (List.mem_of_getElem? (i := 38) (by decide +kernel))) (by decide +kernel)
theorem s_39 : (Cond.selects RX1 yX1_onRing yX1_onRing) ∈ tb := tb_of (List.mem_append_left _ (List.mem_of_getElem? (i := 39) (by decide +kernel))) (by decide +kernel)
theorem s_40 : (Cond.selects RX5 yX5_meetsDrawn yX5_meetsDrawn) ∈ tb := tb_of (List.mem_append_left _ (List.mem_of_getElem? (i := 40) (by decide +kernel))) (by decide +kernel)
theorem s_41 : (Cond.selects RX6 yX6_spell yX6_spell) ∈ tb := tb_of (List.mem_append_left _ (List.mem_of_getElem? (i := 41) (by decide +kernel))) (by decide +kernel)
theorem s_42 : (Cond.selects RX6 yX6_isWay yX6_isWay) ∈ tb := tb_of (List.mem_append_left _ (List.mem_of_getElem? (i := 42) (by decide +kernel))) (by decide +kernel)
theorem s_43 : (Cond.selects RX6 yX6_read yX6_read) ∈ tb := tb_of (List.mem_append_left _ (List.mem_of_getElem? (i := 43) (by decide +kernel))) (by decide +kernel)
theorem s_44 : (Cond.selects RX6 yX6_next yX6_next) ∈ tb := tb_of (List.mem_append_left _ (List.mem_of_getElem? (i := 44) (by decide +kernel))) (by decide +kernel)
theorem s_45 : (Cond.selects RX6 yX6_byteAt yX6_byteAt) ∈ tb := tb_of (List.mem_append_left _ (List.mem_of_getElem? (i := 45) (by decide +kernel))) (by decide +kernel)
theorem s_46 : (Cond.selects RX6 yX6_isWord yX6_isWord) ∈ tb := tb_of (List.mem_append_left _ (List.mem_of_getElem? (i := 46) (by decide +kernel))) (by decide +kernel)
theorem s_47 : (Cond.selects RX6 yX6_isLetter yX6_isLetter) ∈ tb := tb_of (List.mem_append_left _ (List.mem_of_getElem? (i := 47) (by decide +kernel))) (by decide +kernel)
theorem s_48 : (Cond.selects RX6 yX6_part yX6_part) ∈ tb := tb_of (List.mem_append_left _ (List.mem_of_getElem? (i := 48) (by decide +kernel))) (by decide +kernel)
theorem s_49 : (Cond.selects RX6 yX6_fail yX6_fail) ∈ tb := tb_of (List.mem_append_left _ (List.mem_of_getElem? (i := 49) (by decide +kernel))) (by decide +kernel)
theorem s_50 : (Cond.selects RX6 yX6_either0 yX6_either0) ∈ tb := tb_of (List.mem_append_left _ (List.mem_of_getElem? (i := 50) (by decide +kernel))) (by decide +kernel)
theorem s_51 : (Cond.selects RX6 yX6_both0 yX6_both0) ∈ tb := tb_of (List.mem_append_left _ (List.mem_of_getElem? (i := 51) (by decide +kernel))) (by decide +kernel)
theorem s_52 : (Cond.selects RX6 yX6_not0 yX6_not0) ∈ tb := tb_of (List.mem_append_left _ (List.mem_of_getElem? (i := 52) (by decide +kernel))) (by decide +kernel)
theorem s_53 : (Cond.selects RX6 yX6_opens yX6_opens) ∈ tb := tb_of (List.mem_append_left _ (List.mem_of_getElem? (i := 53) (by decide +kernel))) (by decide +kernel)
theorem s_54 : (Cond.selects RX6 yX6_not1 yX6_not1) ∈ tb := tb_of (List.mem_append_left _ (List.mem_of_getElem? (i := 54) (by decide +kernel))) (by decide +kernel)
theorem s_55 : (Cond.selects RX6 yX6_not2 yX6_not2) ∈ tb := tb_of (List.mem_append_left _ (List.mem_of_getElem? (i := 55) (by decide +kernel))) (by decide +kernel)
theorem s_56 : (Cond.selects RX6 yX6_not3 yX6_not3) ∈ tb := tb_of (List.mem_append_left _ (List.mem_of_getElem? (i := 56) (by decide +kernel))) (by decide +kernel)
theorem s_57 : (Cond.selects RX6 yX6_not4 yX6_not4) ∈ tb := tb_of (List.mem_append_left _ (List.mem_of_getElem? (i := 57) (by decide +kernel))) (by decide +kernel)
theorem s_58 : (Cond.selects RX6 yX6_not5 yX6_not5) ∈ tb := tb_of (List.mem_append_left _ (List.mem_of_getElem? (i := 58) (by decide +kernel))) (by decide +kernel)
theorem s_59 : (Cond.selects RX6 yX6_added5 yX6_added5) ∈ tb := tb_of (List.mem_append_left _ (List.mem_of_getElem? (i := 59) (by decide +kernel))) (by decide +kernel)
theorem s_60 : (Cond.selects RX6 yX6_term5 yX6_term5) ∈ tb := tb_of (List.mem_append_left _ (List.mem_of_getElem? (i := 60) (by decide +kernel))) (by decide +kernel)
theorem s_61 : (Cond.selects RX6 yX6_atom5 yX6_atom5) ∈ tb := tb_of (List.mem_append_left _ (List.mem_of_getElem? (i := 61) (by decide +kernel))) (by decide +kernel)
theorem s_62 : (Cond.selects RX6 yX6_isSign yX6_isSign) ∈ tb := tb_of (List.mem_append_left _ (List.mem_of_getElem? (i := 62) (by decide +kernel))) (by decide +kernel)
theorem s_63 : (Cond.selects RX6 yX6_name yX6_name) ∈ tb := tb_of (List.mem_append_left _ (List.mem_of_getElem? (i := 63) (by decide +kernel))) (by decide +kernel)
theorem s_64 : (Cond.selects RX6 yX6_added4 yX6_added4) ∈ tb := tb_of (List.mem_append_left _ (List.mem_of_getElem? (i := 64) (by decide +kernel))) (by decide +kernel)
theorem s_65 : (Cond.selects RX6 yX6_term4 yX6_term4) ∈ tb := tb_of (List.mem_append_left _ (List.mem_of_getElem? (i := 65) (by decide +kernel))) (by decide +kernel)
theorem s_66 : (Cond.selects RX6 yX6_atom4 yX6_atom4) ∈ tb := tb_of (List.mem_append_left _ (List.mem_of_getElem? (i := 66) (by decide +kernel))) (by decide +kernel)
theorem s_67 : (Cond.selects RX6 yX6_either5 yX6_either5) ∈ tb := tb_of (List.mem_append_left _ (List.mem_of_getElem? (i := 67) (by decide +kernel))) (by decide +kernel)
theorem s_68 : (Cond.selects RX6 yX6_both5 yX6_both5) ∈ tb := tb_of (List.mem_append_left _ (List.mem_of_getElem? (i := 68) (by decide +kernel))) (by decide +kernel)
theorem s_69 : (Cond.selects RX6 yX6_added3 yX6_added3) ∈ tb := tb_of (List.mem_append_left _ (List.mem_of_getElem? (i := 69) (by decide +kernel))) (by decide +kernel)
theorem s_70 : (Cond.selects RX6 yX6_term3 yX6_term3) ∈ tb := tb_of (List.mem_append_left _ (List.mem_of_getElem? (i := 70) (by decide +kernel))) (by decide +kernel)
theorem s_71 : (Cond.selects RX6 yX6_atom3 yX6_atom3) ∈ tb := tb_of (List.mem_append_left _ (List.mem_of_getElem? (i := 71) (by decide +kernel))) (by decide +kernel)
theorem s_72 : (Cond.selects RX6 yX6_either4 yX6_either4) ∈ tb := tb_of (List.mem_append_left _ (List.mem_of_getElem? (i := 72) (by decide +kernel))) (by decide +kernel)
theorem s_73 : (Cond.selects RX6 yX6_both4 yX6_both4) ∈ tb := tb_of (List.mem_append_left _ (List.mem_of_getElem? (i := 73) (by decide +kernel))) (by decide +kernel)
theorem s_74 : (Cond.selects RX6 yX6_added2 yX6_added2) ∈ tb := tb_of (List.mem_append_left _ (List.mem_of_getElem? (i := 74) (by decide +kernel))) (by decide +kernel)
theorem s_75 : (Cond.selects RX6 yX6_term2 yX6_term2) ∈ tb := tb_of (List.mem_append_left _ (List.mem_of_getElem? (i := 75) (by decide +kernel))) (by decide +kernel)
theorem s_76 : (Cond.selects RX6 yX6_atom2 yX6_atom2) ∈ tb := tb_of (List.mem_append_left _ (List.mem_of_getElem? (i := 76) (by decide +kernel))) (by decide +kernel)
theorem s_77 : (Cond.selects RX6 yX6_either3 yX6_either3) ∈ tb := tb_of (List.mem_append_left _ (List.mem_of_getElem? (i := 77) (by decide +kernel))) (by decide +kernel)
theorem s_78 : (Cond.selects RX6 yX6_both3 yX6_both3) ∈ tb := tb_of (List.mem_append_left _ (List.mem_of_getElem? (i := 78) (by decide +kernel))) (by decide +kernel)
theorem s_79 : (Cond.selects RX6 yX6_added1 yX6_added1) ∈ tb := tb_of (List.mem_append_left _ (List.mem_of_getElem? (i := 79) (by decide +kernel))) (by decide +kernel)
theorem s_80 : (Cond.selects RX6 yX6_term1 yX6_term1) ∈ tb := tb_of (List.mem_append_left _ (List.mem_of_getElem? (i := 80) (by decide +kernel))) (by decide +kernel)
theorem s_81 : (Cond.selects RX6 yX6_atom1 yX6_atom1) ∈ tb := tb_of (List.mem_append_left _ (List.mem_of_getElem? (i := 81) (by decide +kernel))) (by decide +kernel)
theorem s_82 : (Cond.selects RX6 yX6_either2 yX6_either2) ∈ tb := tb_of (List.mem_append_left _ (List.mem_of_getElem? (i := 82) (by decide +kernel))) (by decide +kernel)
theorem s_83 : (Cond.selects RX6 yX6_both2 yX6_both2) ∈ tb := tb_of (List.mem_append_left _ (List.mem_of_getElem? (i := 83) (by decide +kernel))) (by decide +kernel)
theorem s_84 : (Cond.selects RX6 yX6_added0 yX6_added0) ∈ tb := tb_of (List.mem_append_left _ (List.mem_of_getElem? (i := 84) (by decide +kernel))) (by decide +kernel)
theorem s_85 : (Cond.selects RX6 yX6_term0 yX6_term0) ∈ tb := tb_of (List.mem_append_left _ (List.mem_of_getElem? (i := 85) (by decide +kernel))) (by decide +kernel)
theorem s_86 : (Cond.selects RX6 yX6_atom0 yX6_atom0) ∈ tb := tb_of (List.mem_append_left _ (List.mem_of_getElem? (i := 86) (by decide +kernel))) (by decide +kernel)
theorem s_87 : (Cond.selects RX6 yX6_either1 yX6_either1) ∈ tb := tb_of (List.mem_append_left _ (List.mem_of_getElem? (i := 87) (by decide +kernel))) (by decide +kernel)
theorem s_88 : (Cond.selects RX6 yX6_both1 yX6_both1) ∈ tb := tb_of (List.mem_append_left _ (List.mem_of_getElem? (i := 88) (by decide +kernel))) (by decide +kernel)
theorem s_89 : (Cond.selects RX6 yX6_where yX6_where) ∈ tb := tb_of (List.mem_append_left _ (List.mem_of_getElem? (i := 89) (by decide +kernel))) (by decide +kernel)
theorem s_90 : (Cond.selects RX6 yX6_toldAt yX6_toldAt) ∈ tb := tb_of (List.mem_append_left _ (List.mem_of_getElem? (i := 90) (by decide +kernel))) (by decide +kernel)
theorem s_91 : (Cond.selects RX6 yX6_lateAt yX6_lateAt) ∈ tb := tb_of (List.mem_append_left _ (List.mem_of_getElem? (i := 91) (by decide +kernel))) (by decide +kernel)
theorem s_92 : (Cond.selects RX6 yX6_says yX6_says) ∈ tb := tb_of (List.mem_append_left _ (List.mem_of_getElem? (i := 92) (by decide +kernel))) (by decide +kernel)
theorem s_93 : (Cond.selects RX6 yX6_walks yX6_walks) ∈ tb := tb_of (List.mem_append_left _ (List.mem_of_getElem? (i := 93) (by decide +kernel))) (by decide +kernel)
theorem s_94 : (Cond.selects RX6 yX6_more yX6_more) ∈ tb := tb_of (List.mem_append_left _ (List.mem_of_getElem? (i := 94) (by decide +kernel))) (by decide +kernel)
theorem s_95 : (Cond.selects RX6 yX6_areTwo yX6_areTwo) ∈ tb := tb_of (List.mem_append_left _ (List.mem_of_getElem? (i := 95) (by decide +kernel))) (by decide +kernel)
theorem s_96 : (Cond.selects RX6 yX6_lays yX6_lays) ∈ tb := tb_of (List.mem_append_left _ (List.mem_of_getElem? (i := 96) (by decide +kernel))) (by decide +kernel)
theorem s_97 : (Cond.selects RX6 yX6_doMeet yX6_doMeet) ∈ tb := tb_of (List.mem_append_left _ (List.mem_of_getElem? (i := 97) (by decide +kernel))) (by decide +kernel)
theorem s_98 : (Cond.selects RX6 yX6_apartAt yX6_apartAt) ∈ tb := tb_of (List.mem_append_left _ (List.mem_of_getElem? (i := 98) (by decide +kernel))) (by decide +kernel)
theorem s_99 : (Cond.selects RX6 yX6_firstMeet yX6_firstMeet) ∈ tb := tb_of (List.mem_append_left _ (List.mem_of_getElem? (i := 99) (by decide +kernel))) (by decide +kernel)
theorem s_100 : (Cond.selects RX6 yX6_notesBad yX6_notesBad) ∈ tb := tb_of (List.mem_append_left _ (List.mem_of_getElem? (i := 100) (by decide +kernel))) (by decide +kernel)
theorem s_101 : (Cond.selects RX6 yX6_isSo yX6_isSo) ∈ tb := tb_of (List.mem_append_left _ (List.mem_of_getElem? (i := 101) (by decide +kernel))) (by decide +kernel)
theorem s_102 : (Cond.selects RX6 yX6_partsAll yX6_partsAll) ∈ tb := tb_of (List.mem_append_left _ (List.mem_of_getElem? (i := 102) (by decide +kernel))) (by decide +kernel)
theorem s_103 : (Cond.selects RX6 yX6_ringBad yX6_ringBad) ∈ tb := tb_of (List.mem_append_left _ (List.mem_of_getElem? (i := 103) (by decide +kernel))) (by decide +kernel)
theorem s_104 : (Cond.selects RX6 yX6_ring yX6_ring) ∈ tb := tb_of (List.mem_append_left _ (List.mem_of_getElem? (i := 104) (by decide +kernel))) (by decide +kernel)
theorem s_105 : (Cond.selects RX6 yX6_across yX6_across) ∈ tb := tb_of (List.mem_append_left _ (List.mem_of_getElem? (i := 105) (by decide +kernel))) (by decide +kernel)
theorem s_106 : (Cond.selects RX6 yX6_draws yX6_draws) ∈ tb := tb_of (List.mem_append_left _ (List.mem_of_getElem? (i := 106) (by decide +kernel))) (by decide +kernel)
theorem nk_0 : (Cond.methodLinkNest RX0 21 yX4_init "SamePlace") ∈ nestW := List.mem_of_getElem? (i := 0) rfl
theorem nk_1 : (Cond.fieldLinkNest RX5 123 "SamePlace$Way" "kind" "I" "SamePlace") ∈ nestW := List.mem_of_getElem? (i := 1) rfl
theorem nk_2 : (Cond.fieldLinkNest RX5 96 "SamePlace$Way" "number" "I" "SamePlace") ∈ nestW := List.mem_of_getElem? (i := 2) rfl
theorem nk_3 : (Cond.fieldLinkNest RX0 32 "SamePlace$Way" "size" "I" "SamePlace") ∈ nestW := List.mem_of_getElem? (i := 3) rfl
theorem nk_4 : (Cond.fieldLinkNest RX5 119 "SamePlace$Way" "size" "I" "SamePlace") ∈ nestW := List.mem_of_getElem? (i := 4) rfl
theorem nk_5 : (Cond.fieldLinkNest RX5 126 "SamePlace$Way" "minutes" "[I" "SamePlace") ∈ nestW := List.mem_of_getElem? (i := 5) rfl
theorem nk_6 : (Cond.fieldLinkNest RX5 129 "SamePlace$Way" "places" "[I" "SamePlace") ∈ nestW := List.mem_of_getElem? (i := 6) rfl
theorem nk_7 : (Cond.fieldLinkNest RX5 82 "SamePlace$Path" "far" "I" "SamePlace") ∈ nestW := List.mem_of_getElem? (i := 7) rfl
theorem nk_8 : (Cond.fieldLinkNest RX5 102 "SamePlace$Path" "size" "I" "SamePlace") ∈ nestW := List.mem_of_getElem? (i := 8) rfl
theorem nk_9 : (Cond.fieldLinkNest RX5 140 "SamePlace$Path" "rule" "I" "SamePlace") ∈ nestW := List.mem_of_getElem? (i := 9) rfl
theorem nk_10 : (Cond.fieldLinkNest RX5 92 "SamePlace$Path" "ways" "[LSamePlace$Way;" "SamePlace") ∈ nestW := List.mem_of_getElem? (i := 10) rfl
theorem nk_11 : (Cond.methodLinkNest RX5 21 yX2_init "SamePlace") ∈ nestW := List.mem_of_getElem? (i := 11) rfl
theorem nk_12 : (Cond.fieldLinkNest RX5 132 "SamePlace$Tape" "size" "I" "SamePlace") ∈ nestW := List.mem_of_getElem? (i := 12) rfl
theorem nk_13 : (Cond.methodLinkNest RX5 56 yX4_init "SamePlace") ∈ nestW := List.mem_of_getElem? (i := 13) rfl
theorem nk_14 : (Cond.methodLinkNest RX5 61 yX3_init "SamePlace") ∈ nestW := List.mem_of_getElem? (i := 14) rfl
theorem nk_15 : (Cond.methodLinkNest RX5 62 yX1_init "SamePlace") ∈ nestW := List.mem_of_getElem? (i := 15) rfl
theorem nk_16 : (Cond.fieldLinkNest RX5 319 "SamePlace$Sheet" "sort" "I" "SamePlace") ∈ nestW := List.mem_of_getElem? (i := 16) rfl
theorem nk_17 : (Cond.fieldLinkNest RX5 242 "SamePlace$Sheet" "size" "I" "SamePlace") ∈ nestW := List.mem_of_getElem? (i := 17) rfl
theorem nk_18 : (Cond.fieldLinkNest RX5 243 "SamePlace$Sheet" "items" "[I" "SamePlace") ∈ nestW := List.mem_of_getElem? (i := 18) rfl
theorem nk_19 : (Cond.methodLinkNest RX4 58 yX5_rest "SamePlace") ∈ nestW := List.mem_of_getElem? (i := 19) rfl
theorem nk_20 : (Cond.methodLinkNest RX4 47 yX5_within "SamePlace") ∈ nestW := List.mem_of_getElem? (i := 20) rfl
theorem nk_21 : (Cond.methodLinkNest RX1 28 yX5_rest "SamePlace") ∈ nestW := List.mem_of_getElem? (i := 21) rfl
theorem lX0_has : lkV yX0_has cX0_has 2 (some .boolean) 1 := ⟨k_229, k_230, k_2, k_231, ⟨by decide, by decide, by decide +kernel⟩⟩
theorem lX0_become : lkV yX0_become cX0_become 3 none 1 := ⟨k_708, k_709, k_2, k_710, ⟨by decide, by decide, by decide +kernel⟩⟩
theorem lX0_allPoints : lkV yX0_allPoints cX0_allPoints 3 (some .int) 0 := ⟨k_726, k_727, k_2, k_728, ⟨by decide, by decide, by decide +kernel⟩⟩
theorem lX0_farthestPlace : lkV yX0_farthestPlace cX0_farthestPlace 3 (some .int) 0 := ⟨k_213, k_214, k_2, k_215, ⟨by decide, by decide, by decide +kernel⟩⟩
theorem lX1_begin : lkV yX1_begin cX1_begin 4 none 2 := ⟨k_734, k_735, k_6, k_736, ⟨by decide, by decide, by decide +kernel⟩⟩
theorem lX1_isMissing : lkV yX1_isMissing cX1_isMissing 1 (some .boolean) 0 := ⟨k_608, k_609, k_6, k_610, ⟨by decide, by decide, by decide +kernel⟩⟩
theorem lX1_holds : lkV yX1_holds cX1_holds 3 (some .boolean) 2 := ⟨k_746, k_747, k_6, k_748, ⟨by decide, by decide, by decide +kernel⟩⟩
theorem lX1_put : lkV yX1_put cX1_put 3 none 2 := ⟨k_750, k_751, k_6, k_752, ⟨by decide, by decide, by decide +kernel⟩⟩
theorem lX1_onRing : lkV yX1_onRing cX1_onRing 2 (some .int) 1 := ⟨k_678, s_39, k_6, k_679, ⟨by decide, by decide, by decide +kernel⟩⟩
theorem lX1_filled : lkV yX1_filled cX1_filled 5 (some .int) 2 := ⟨k_673, k_674, k_6, k_675, ⟨by decide, by decide, by decide +kernel⟩⟩
theorem lX1_acrossFrom : lkV yX1_acrossFrom cX1_acrossFrom 2 (some .long) 1 := ⟨k_686, k_687, k_6, k_688, ⟨by decide, by decide, by decide +kernel⟩⟩
theorem lX2_add : lkV yX2_add cX2_add 2 none 1 := ⟨k_278, k_279, k_4, k_280, ⟨by decide, by decide, by decide +kernel⟩⟩
theorem lX2_readInto : lkV yX2_readInto cX2_readInto 3 (some .int) 1 := ⟨k_286, k_287, k_4, k_288, ⟨by decide, by decide, by decide +kernel⟩⟩
theorem lX2_expect : lkV yX2_expect cX2_expect 2 none 1 := ⟨k_421, s_7, k_4, k_422, ⟨by decide, by decide, by decide +kernel⟩⟩
theorem lX2_refuse : lkV yX2_refuse cX2_refuse 1 none 0 := ⟨k_425, s_8, k_4, k_426, ⟨by decide, by decide, by decide +kernel⟩⟩
theorem lX2_phrase : lkV yX2_phrase cX2_phrase 6 none 2 := ⟨k_429, s_9, k_4, k_430, ⟨by decide, by decide, by decide +kernel⟩⟩
theorem lX2_joins : lkV yX2_joins cX2_joins 2 (some .boolean) 1 := ⟨k_438, s_11, k_4, k_439, ⟨by decide, by decide, by decide +kernel⟩⟩
theorem lX2_one : lkV yX2_one cX2_one 5 none 1 := ⟨k_433, s_10, k_4, k_434, ⟨by decide, by decide, by decide +kernel⟩⟩
theorem lX2_advance : lkV yX2_advance cX2_advance 2 none 0 := ⟨k_292, s_3, k_4, k_293, ⟨by decide, by decide, by decide +kernel⟩⟩
theorem lX2_readWord : lkV yX2_readWord cX2_readWord 4 none 0 := ⟨k_299, s_4, k_4, k_300, ⟨by decide, by decide, by decide +kernel⟩⟩
theorem lX2_isWord : lkV yX2_isWord cX2_isWord 4 (some .boolean) 2 := ⟨k_352, s_5, k_4, k_353, ⟨by decide, by decide, by decide +kernel⟩⟩
theorem lX2_readNumber : lkV yX2_readNumber cX2_readNumber 1 none 0 := ⟨k_359, s_6, k_4, k_360, ⟨by decide, by decide, by decide +kernel⟩⟩
theorem lX2_isLetter : lkS yX2_isLetter cX2_isLetter 1 (some .boolean) 1 := ⟨k_295, k_4, k_296, ⟨by decide, by decide, by decide +kernel⟩⟩
theorem lX2_isDigit : lkS yX2_isDigit cX2_isDigit 1 (some .boolean) 1 := ⟨k_355, k_4, k_356, ⟨by decide, by decide, by decide +kernel⟩⟩
theorem lX3_begin : lkV yX3_begin cX3_begin 1 none 0 := ⟨k_153, k_154, k_5, k_155, ⟨by decide, by decide, by decide +kernel⟩⟩
theorem lX3_put : lkV yX3_put cX3_put 2 none 1 := ⟨k_157, k_158, k_5, k_159, ⟨by decide, by decide, by decide +kernel⟩⟩
theorem lX3_endPart : lkV yX3_endPart cX3_endPart 2 none 1 := ⟨k_161, k_162, k_5, k_163, ⟨by decide, by decide, by decide +kernel⟩⟩
theorem lX3_tell : lkV yX3_tell cX3_tell 7 (some .int) 3 := ⟨k_492, k_493, k_5, k_494, ⟨by decide, by decide, by decide +kernel⟩⟩
theorem lX3_joined : lkS yX3_joined cX3_joined 3 (some .int) 3 := ⟨k_499, k_5, k_500, ⟨by decide, by decide, by decide +kernel⟩⟩
theorem lX3_truth : lkS yX3_truth cX3_truth 1 (some .int) 1 := ⟨k_496, k_5, k_497, ⟨by decide, by decide, by decide +kernel⟩⟩
theorem lX4_begin : lkV yX4_begin cX4_begin 3 none 2 := ⟨k_243, k_244, k_3, k_245, ⟨by decide, by decide, by decide +kernel⟩⟩
theorem lX4_become : lkV yX4_become cX4_become 3 none 1 := ⟨k_712, k_713, k_3, k_714, ⟨by decide, by decide, by decide +kernel⟩⟩
theorem lX4_add : lkV yX4_add cX4_add 3 none 2 := ⟨k_262, k_263, k_3, k_264, ⟨by decide, by decide, by decide +kernel⟩⟩
theorem lX4_endsAhead : lkV yX4_endsAhead cX4_endsAhead 2 (some .boolean) 1 := ⟨k_258, k_259, k_3, k_260, ⟨by decide, by decide, by decide +kernel⟩⟩
theorem lX4_farthestPlace : lkV yX4_farthestPlace cX4_farthestPlace 3 (some .int) 0 := ⟨k_217, k_218, k_3, k_219, ⟨by decide, by decide, by decide +kernel⟩⟩
theorem lX4_lay : lkV yX4_lay cX4_lay 4 none 2 := ⟨k_549, k_550, k_3, k_551, ⟨by decide, by decide, by decide +kernel⟩⟩
theorem lX4_where : lkV yX4_where cX4_where 3 (some .int) 2 := ⟨k_451, k_452, k_3, k_453, ⟨by decide, by decide, by decide +kernel⟩⟩
theorem lX4_unbound : lkV yX4_unbound cX4_unbound 3 (some .int) 2 := ⟨k_456, s_12, k_3, k_457, ⟨by decide, by decide, by decide +kernel⟩⟩
theorem lX4_late : lkV yX4_late cX4_late 2 (some .int) 1 := ⟨k_460, s_13, k_3, k_461, ⟨by decide, by decide, by decide +kernel⟩⟩
theorem lX4_turned : lkV yX4_turned cX4_turned 3 (some .int) 2 := ⟨k_468, s_15, k_3, k_469, ⟨by decide, by decide, by decide +kernel⟩⟩
theorem lX4_byPoints : lkV yX4_byPoints cX4_byPoints 7 (some .int) 1 := ⟨k_464, s_14, k_3, k_465, ⟨by decide, by decide, by decide +kernel⟩⟩
theorem lX5_set : lkV yX5_set cX5_set 4 (some .int) 3 := ⟨k_205, k_206, k_1, k_207, ⟨by decide, by decide, by decide +kernel⟩⟩
theorem lX5_changeLong : lkV yX5_changeLong cX5_changeLong 3 (some .int) 1 := ⟨k_210, s_0, k_1, k_211, ⟨by decide, by decide, by decide +kernel⟩⟩
theorem lX5_changeNumber : lkV yX5_changeNumber cX5_changeNumber 4 (some .int) 2 := ⟨k_226, s_1, k_1, k_227, ⟨by decide, by decide, by decide +kernel⟩⟩
theorem lX5_way : lkV yX5_way cX5_way 3 (some .int) 2 := ⟨k_236, k_237, k_1, k_238, ⟨by decide, by decide, by decide +kernel⟩⟩
theorem lX5_point : lkV yX5_point cX5_point 4 (some .int) 3 := ⟨k_247, k_248, k_1, k_249, ⟨by decide, by decide, by decide +kernel⟩⟩
theorem lX5_addPoint : lkV yX5_addPoint cX5_addPoint 5 (some .int) 3 := ⟨k_252, s_2, k_1, k_253, ⟨by decide, by decide, by decide +kernel⟩⟩
theorem lX5_clear : lkV yX5_clear cX5_clear 3 (some .int) 1 := ⟨k_266, k_267, k_1, k_268, ⟨by decide, by decide, by decide +kernel⟩⟩
theorem lX5_told : lkV yX5_told cX5_told 5 (some .int) 2 := ⟨k_270, k_271, k_1, k_272, ⟨by decide, by decide, by decide +kernel⟩⟩
theorem lX5_feed : lkV yX5_feed cX5_feed 2 (some .int) 1 := ⟨k_274, k_275, k_1, k_276, ⟨by decide, by decide, by decide +kernel⟩⟩
theorem lX5_text : lkV yX5_text cX5_text 2 (some .int) 0 := ⟨k_282, k_283, k_1, k_284, ⟨by decide, by decide, by decide +kernel⟩⟩
theorem lX5_force : lkV yX5_force cX5_force 3 (some .int) 1 := ⟨k_443, k_444, k_1, k_445, ⟨by decide, by decide, by decide +kernel⟩⟩
theorem lX5_ruled : lkV yX5_ruled cX5_ruled 7 (some .int) 3 := ⟨k_484, s_16, k_1, k_485, ⟨by decide, by decide, by decide +kernel⟩⟩
theorem lX5_at : lkV yX5_at cX5_at 3 (some .int) 2 := ⟨k_447, k_448, k_1, k_449, ⟨by decide, by decide, by decide +kernel⟩⟩
theorem lX5_asks : lkV yX5_asks cX5_asks 4 (some .int) 3 := ⟨k_479, k_480, k_1, k_481, ⟨by decide, by decide, by decide +kernel⟩⟩
theorem lX5_length : lkV yX5_length cX5_length 4 (some .int) 3 := ⟨k_505, k_506, k_1, k_507, ⟨by decide, by decide, by decide +kernel⟩⟩
theorem lX5_mean : lkV yX5_mean cX5_mean 8 (some .int) 2 := ⟨k_513, k_514, k_1, k_515, ⟨by decide, by decide, by decide +kernel⟩⟩
theorem lX5_beyondMean : lkV yX5_beyondMean cX5_beyondMean 3 (some .long) 2 := ⟨k_518, s_18, k_1, k_519, ⟨by decide, by decide, by decide +kernel⟩⟩
theorem lX5_half : lkV yX5_half cX5_half 4 (some .int) 2 := ⟨k_525, k_526, k_1, k_527, ⟨by decide, by decide, by decide +kernel⟩⟩
theorem lX5_halfWalked : lkV yX5_halfWalked cX5_halfWalked 3 (some .int) 1 := ⟨k_530, s_19, k_1, k_531, ⟨by decide, by decide, by decide +kernel⟩⟩
theorem lX5_bestMinute : lkV yX5_bestMinute cX5_bestMinute 6 (some .int) 1 := ⟨k_534, s_20, k_1, k_535, ⟨by decide, by decide, by decide +kernel⟩⟩
theorem lX5_layWalked : lkV yX5_layWalked cX5_layWalked 6 none 1 := ⟨k_510, s_17, k_1, k_511, ⟨by decide, by decide, by decide +kernel⟩⟩
theorem lX5_meet : lkV yX5_meet cX5_meet 4 (some .int) 3 := ⟨k_537, k_538, k_1, k_539, ⟨by decide, by decide, by decide +kernel⟩⟩
theorem lX5_meetings : lkV yX5_meetings cX5_meetings 3 (some .int) 0 := ⟨k_571, s_27, k_1, k_572, ⟨by decide, by decide, by decide +kernel⟩⟩
theorem lX5_lastMeeting : lkV yX5_lastMeeting cX5_lastMeeting 2 (some .int) 0 := ⟨k_563, s_25, k_1, k_564, ⟨by decide, by decide, by decide +kernel⟩⟩
theorem lX5_when : lkV yX5_when cX5_when 9 (some .long) 3 := ⟨k_574, k_575, k_1, k_576, ⟨by decide, by decide, by decide +kernel⟩⟩
theorem lX5_sure : lkV yX5_sure cX5_sure 4 (some .int) 2 := ⟨k_585, k_586, k_1, k_587, ⟨by decide, by decide, by decide +kernel⟩⟩
theorem lX5_apart : lkV yX5_apart cX5_apart 5 (some .int) 3 := ⟨k_589, k_590, k_1, k_591, ⟨by decide, by decide, by decide +kernel⟩⟩
theorem lX5_farthestMinute : lkV yX5_farthestMinute cX5_farthestMinute 5 (some .int) 0 := ⟨k_598, s_29, k_1, k_599, ⟨by decide, by decide, by decide +kernel⟩⟩
theorem lX5_nearMinutes : lkV yX5_nearMinutes cX5_nearMinutes 4 (some .int) 1 := ⟨k_594, s_28, k_1, k_595, ⟨by decide, by decide, by decide +kernel⟩⟩
theorem lX5_areTwo : lkV yX5_areTwo cX5_areTwo 3 (some .boolean) 2 := ⟨k_542, s_21, k_1, k_543, ⟨by decide, by decide, by decide +kernel⟩⟩
theorem lX5_layTwo : lkV yX5_layTwo cX5_layTwo 3 none 2 := ⟨k_546, s_22, k_1, k_547, ⟨by decide, by decide, by decide +kernel⟩⟩
theorem lX5_gap : lkV yX5_gap cX5_gap 3 (some .int) 2 := ⟨k_559, s_24, k_1, k_560, ⟨by decide, by decide, by decide +kernel⟩⟩
theorem lX5_meetIn : lkV yX5_meetIn cX5_meetIn 3 (some .boolean) 1 := ⟨k_567, s_26, k_1, k_568, ⟨by decide, by decide, by decide +kernel⟩⟩
theorem lX5_firstMeeting : lkV yX5_firstMeeting cX5_firstMeeting 5 (some .int) 1 := ⟨k_555, s_23, k_1, k_556, ⟨by decide, by decide, by decide +kernel⟩⟩
theorem lX5_fits : lkV yX5_fits cX5_fits 5 (some .int) 1 := ⟨k_601, k_602, k_1, k_603, ⟨by decide, by decide, by decide +kernel⟩⟩
theorem lX5_fitsByRule : lkV yX5_fitsByRule cX5_fitsByRule 5 (some .boolean) 2 := ⟨k_616, s_30, k_1, k_617, ⟨by decide, by decide, by decide +kernel⟩⟩
theorem lX5_wrong : lkV yX5_wrong cX5_wrong 5 (some .int) 3 := ⟨k_627, k_628, k_1, k_629, ⟨by decide, by decide, by decide +kernel⟩⟩
theorem lX5_clocks : lkV yX5_clocks cX5_clocks 5 (some .int) 2 := ⟨k_632, s_32, k_1, k_633, ⟨by decide, by decide, by decide +kernel⟩⟩
theorem lX5_nearestClock : lkV yX5_nearestClock cX5_nearestClock 4 (some .int) 2 := ⟨k_640, s_34, k_1, k_641, ⟨by decide, by decide, by decide +kernel⟩⟩
theorem lX5_fitsBy : lkV yX5_fitsBy cX5_fitsBy 5 (some .boolean) 3 := ⟨k_636, s_33, k_1, k_637, ⟨by decide, by decide, by decide +kernel⟩⟩
theorem lX5_agrees : lkV yX5_agrees cX5_agrees 8 (some .boolean) 4 := ⟨k_620, s_31, k_1, k_621, ⟨by decide, by decide, by decide +kernel⟩⟩
theorem lX5_areNotes : lkS yX5_areNotes cX5_areNotes 2 (some .boolean) 1 := ⟨k_612, k_1, k_613, ⟨by decide, by decide, by decide +kernel⟩⟩
theorem lX5_posts : lkV yX5_posts cX5_posts 3 (some .int) 1 := ⟨k_643, k_644, k_1, k_645, ⟨by decide, by decide, by decide +kernel⟩⟩
theorem lX5_layUnlike : lkV yX5_layUnlike cX5_layUnlike 4 (some .int) 0 := ⟨k_648, s_35, k_1, k_649, ⟨by decide, by decide, by decide +kernel⟩⟩
theorem lX5_unlikePosts : lkV yX5_unlikePosts cX5_unlikePosts 6 (some .int) 2 := ⟨k_652, s_36, k_1, k_653, ⟨by decide, by decide, by decide +kernel⟩⟩
theorem lX5_fewestPosts : lkV yX5_fewestPosts cX5_fewestPosts 6 (some .int) 1 := ⟨k_656, s_37, k_1, k_657, ⟨by decide, by decide, by decide +kernel⟩⟩
theorem lX5_tellsAllApart : lkV yX5_tellsAllApart cX5_tellsAllApart 4 (some .boolean) 2 := ⟨k_666, s_38, k_1, k_667, ⟨by decide, by decide, by decide +kernel⟩⟩
theorem lX5_beads : lkV yX5_beads cX5_beads 5 (some .int) 1 := ⟨k_669, k_670, k_1, k_671, ⟨by decide, by decide, by decide +kernel⟩⟩
theorem lX5_heat : lkV yX5_heat cX5_heat 6 (some .int) 1 := ⟨k_682, k_683, k_1, k_684, ⟨by decide, by decide, by decide +kernel⟩⟩
theorem lX5_drawn : lkV yX5_drawn cX5_drawn 4 (some .int) 3 := ⟨k_690, k_691, k_1, k_692, ⟨by decide, by decide, by decide +kernel⟩⟩
theorem lX5_meetsDrawn : lkV yX5_meetsDrawn cX5_meetsDrawn 5 (some .int) 2 := ⟨k_695, s_40, k_1, k_696, ⟨by decide, by decide, by decide +kernel⟩⟩
theorem lX5_chance : lkV yX5_chance cX5_chance 7 (some .long) 4 := ⟨k_700, k_701, k_1, k_702, ⟨by decide, by decide, by decide +kernel⟩⟩
theorem lX5_image : lkV yX5_image cX5_image 1 (some .int) 0 := ⟨k_704, k_705, k_1, k_706, ⟨by decide, by decide, by decide +kernel⟩⟩
theorem lX5_back : lkV yX5_back cX5_back 1 (some .int) 0 := ⟨k_718, k_719, k_1, k_720, ⟨by decide, by decide, by decide +kernel⟩⟩
theorem lX5_count : lkV yX5_count cX5_count 2 (some .int) 1 := ⟨k_722, k_723, k_1, k_724, ⟨by decide, by decide, by decide +kernel⟩⟩
theorem lX5_sheet : lkV yX5_sheet cX5_sheet 4 (some .int) 3 := ⟨k_730, k_731, k_1, k_732, ⟨by decide, by decide, by decide +kernel⟩⟩
theorem lX5_cell : lkV yX5_cell cX5_cell 4 (some .int) 3 := ⟨k_742, k_743, k_1, k_744, ⟨by decide, by decide, by decide +kernel⟩⟩
theorem lX5_copy : lkV yX5_copy cX5_copy 8 (some .int) 5 := ⟨k_754, k_755, k_1, k_756, ⟨by decide, by decide, by decide +kernel⟩⟩
theorem lX5_points : lkV yX5_points cX5_points 9 (some .int) 4 := ⟨k_761, k_762, k_1, k_763, ⟨by decide, by decide, by decide +kernel⟩⟩
theorem lX5_taken : lkV yX5_taken cX5_taken 3 (some .int) 2 := ⟨k_765, k_766, k_1, k_767, ⟨by decide, by decide, by decide +kernel⟩⟩
theorem lX5_isUnder : lkS yX5_isUnder cX5_isUnder 4 (some .boolean) 2 := ⟨k_769, k_1, k_770, ⟨by decide, by decide, by decide +kernel⟩⟩
theorem lX5_isMinute : lkS yX5_isMinute cX5_isMinute 1 (some .boolean) 1 := ⟨k_255, k_1, k_256, ⟨by decide, by decide, by decide +kernel⟩⟩
theorem lX5_isKind : lkS yX5_isKind cX5_isKind 1 (some .boolean) 1 := ⟨k_240, k_1, k_241, ⟨by decide, by decide, by decide +kernel⟩⟩
theorem lX5_isNumber : lkS yX5_isNumber cX5_isNumber 1 (some .boolean) 1 := ⟨k_233, k_1, k_234, ⟨by decide, by decide, by decide +kernel⟩⟩
theorem lX5_isSheet : lkS yX5_isSheet cX5_isSheet 1 (some .boolean) 1 := ⟨k_605, k_1, k_606, ⟨by decide, by decide, by decide +kernel⟩⟩
theorem lX5_isSort : lkS yX5_isSort cX5_isSort 1 (some .boolean) 1 := ⟨k_739, k_1, k_740, ⟨by decide, by decide, by decide +kernel⟩⟩
theorem lX5_within : lkS yX5_within cX5_within 3 (some .int) 3 := ⟨k_474, k_1, k_475, ⟨by decide, by decide, by decide +kernel⟩⟩
theorem lX5_areOpposite : lkS yX5_areOpposite cX5_areOpposite 4 (some .boolean) 2 := ⟨k_522, k_1, k_523, ⟨by decide, by decide, by decide +kernel⟩⟩
theorem lX5_rest : lkS yX5_rest cX5_rest 2 (some .int) 2 := ⟨k_471, k_1, k_472, ⟨by decide, by decide, by decide +kernel⟩⟩
theorem lX5_lowest : lkS yX5_lowest cX5_lowest 9 (some .long) 3 := ⟨k_579, k_1, k_580, ⟨by decide, by decide, by decide +kernel⟩⟩
theorem lX5_commonDivisor : lkS yX5_commonDivisor cX5_commonDivisor 11 (some .long) 2 := ⟨k_582, k_1, k_583, ⟨by decide, by decide, by decide +kernel⟩⟩
theorem lX6_in : lkS yX6_in cX6_in 6 (some .boolean) 3 := ⟨k_922, k_7, k_923, ⟨by decide, by decide, by decide +kernel⟩⟩
theorem lX6_within : lkS yX6_within cX6_within 3 (some .int) 3 := ⟨k_1172, k_7, k_1173, ⟨by decide, by decide, by decide +kernel⟩⟩
theorem lX6_plain : lkS yX6_plain cX6_plain 2 (some .long) 1 := ⟨k_1184, k_7, k_1185, ⟨by decide, by decide, by decide +kernel⟩⟩
theorem lX6_isWay : lkV yX6_isWay cX6_isWay 2 (some .boolean) 1 := ⟨k_926, s_42, k_7, k_927, ⟨by decide, by decide, by decide +kernel⟩⟩
theorem lX6_areTwo : lkV yX6_areTwo cX6_areTwo 3 (some .boolean) 2 := ⟨k_1216, s_95, k_7, k_1217, ⟨by decide, by decide, by decide +kernel⟩⟩
theorem lX6_isMinute : lkS yX6_isMinute cX6_isMinute 1 (some .boolean) 1 := ⟨k_941, k_7, k_942, ⟨by decide, by decide, by decide +kernel⟩⟩
theorem lX6_set : lkV yX6_set cX6_set 6 (some .int) 3 := ⟨k_918, k_919, k_7, k_920, ⟨by decide, by decide, by decide +kernel⟩⟩
theorem lX6_way : lkV yX6_way cX6_way 3 (some .int) 2 := ⟨k_932, k_933, k_7, k_934, ⟨by decide, by decide, by decide +kernel⟩⟩
theorem lX6_point : lkV yX6_point cX6_point 5 (some .int) 3 := ⟨k_937, k_938, k_7, k_939, ⟨by decide, by decide, by decide +kernel⟩⟩
theorem lX6_clear : lkV yX6_clear cX6_clear 3 (some .int) 1 := ⟨k_945, k_946, k_7, k_947, ⟨by decide, by decide, by decide +kernel⟩⟩
theorem lX6_told : lkV yX6_told cX6_told 4 (some .int) 2 := ⟨k_949, k_950, k_7, k_951, ⟨by decide, by decide, by decide +kernel⟩⟩
theorem lX6_toldAt : lkV yX6_toldAt cX6_toldAt 6 (some .int) 2 := ⟨k_1165, s_90, k_7, k_1166, ⟨by decide, by decide, by decide +kernel⟩⟩
theorem lX6_lateAt : lkV yX6_lateAt cX6_lateAt 4 (some .int) 2 := ⟨k_1169, s_91, k_7, k_1170, ⟨by decide, by decide, by decide +kernel⟩⟩
theorem lX6_where : lkV yX6_where cX6_where 5 (some .int) 2 := ⟨k_1161, s_89, k_7, k_1162, ⟨by decide, by decide, by decide +kernel⟩⟩
theorem lX6_feed : lkV yX6_feed cX6_feed 2 (some .int) 1 := ⟨k_953, k_954, k_7, k_955, ⟨by decide, by decide, by decide +kernel⟩⟩
theorem lX6_byteAt : lkV yX6_byteAt cX6_byteAt 2 (some .int) 1 := ⟨k_971, s_45, k_7, k_972, ⟨by decide, by decide, by decide +kernel⟩⟩
theorem lX6_next : lkV yX6_next cX6_next 3 none 0 := ⟨k_967, s_44, k_7, k_968, ⟨by decide, by decide, by decide +kernel⟩⟩
theorem lX6_fail : lkV yX6_fail cX6_fail 1 none 0 := ⟨k_991, s_49, k_7, k_992, ⟨by decide, by decide, by decide +kernel⟩⟩
theorem lX6_isLetter : lkV yX6_isLetter cX6_isLetter 3 (some .boolean) 2 := ⟨k_983, s_47, k_7, k_984, ⟨by decide, by decide, by decide +kernel⟩⟩
theorem lX6_isWord : lkV yX6_isWord cX6_isWord 9 (some .boolean) 8 := ⟨k_979, s_46, k_7, k_980, ⟨by decide, by decide, by decide +kernel⟩⟩
theorem lX6_isSign : lkV yX6_isSign cX6_isSign 2 (some .boolean) 1 := ⟨k_1043, s_62, k_7, k_1044, ⟨by decide, by decide, by decide +kernel⟩⟩
theorem lX6_opens : lkV yX6_opens cX6_opens 1 (some .boolean) 0 := ⟨k_1007, s_53, k_7, k_1008, ⟨by decide, by decide, by decide +kernel⟩⟩
theorem lX6_name : lkV yX6_name cX6_name 1 (some .int) 0 := ⟨k_1047, s_63, k_7, k_1048, ⟨by decide, by decide, by decide +kernel⟩⟩
theorem lX6_atom5 : lkV yX6_atom5 cX6_atom5 2 (some .int) 0 := ⟨k_1039, s_61, k_7, k_1040, ⟨by decide, by decide, by decide +kernel⟩⟩
theorem lX6_term5 : lkV yX6_term5 cX6_term5 2 (some .int) 0 := ⟨k_1035, s_60, k_7, k_1036, ⟨by decide, by decide, by decide +kernel⟩⟩
theorem lX6_added5 : lkV yX6_added5 cX6_added5 4 (some .int) 0 := ⟨k_1031, s_59, k_7, k_1032, ⟨by decide, by decide, by decide +kernel⟩⟩
theorem lX6_not5 : lkV yX6_not5 cX6_not5 4 (some .int) 0 := ⟨k_1027, s_58, k_7, k_1028, ⟨by decide, by decide, by decide +kernel⟩⟩
theorem lX6_both5 : lkV yX6_both5 cX6_both5 3 (some .int) 0 := ⟨k_1069, s_68, k_7, k_1070, ⟨by decide, by decide, by decide +kernel⟩⟩
theorem lX6_either5 : lkV yX6_either5 cX6_either5 3 (some .int) 0 := ⟨k_1065, s_67, k_7, k_1066, ⟨by decide, by decide, by decide +kernel⟩⟩
theorem lX6_atom4 : lkV yX6_atom4 cX6_atom4 2 (some .int) 0 := ⟨k_1061, s_66, k_7, k_1062, ⟨by decide, by decide, by decide +kernel⟩⟩
theorem lX6_term4 : lkV yX6_term4 cX6_term4 2 (some .int) 0 := ⟨k_1057, s_65, k_7, k_1058, ⟨by decide, by decide, by decide +kernel⟩⟩
theorem lX6_added4 : lkV yX6_added4 cX6_added4 4 (some .int) 0 := ⟨k_1053, s_64, k_7, k_1054, ⟨by decide, by decide, by decide +kernel⟩⟩
theorem lX6_not4 : lkV yX6_not4 cX6_not4 4 (some .int) 0 := ⟨k_1023, s_57, k_7, k_1024, ⟨by decide, by decide, by decide +kernel⟩⟩
theorem lX6_both4 : lkV yX6_both4 cX6_both4 3 (some .int) 0 := ⟨k_1089, s_73, k_7, k_1090, ⟨by decide, by decide, by decide +kernel⟩⟩
theorem lX6_either4 : lkV yX6_either4 cX6_either4 3 (some .int) 0 := ⟨k_1085, s_72, k_7, k_1086, ⟨by decide, by decide, by decide +kernel⟩⟩
theorem lX6_atom3 : lkV yX6_atom3 cX6_atom3 2 (some .int) 0 := ⟨k_1081, s_71, k_7, k_1082, ⟨by decide, by decide, by decide +kernel⟩⟩
theorem lX6_term3 : lkV yX6_term3 cX6_term3 2 (some .int) 0 := ⟨k_1077, s_70, k_7, k_1078, ⟨by decide, by decide, by decide +kernel⟩⟩
theorem lX6_added3 : lkV yX6_added3 cX6_added3 4 (some .int) 0 := ⟨k_1073, s_69, k_7, k_1074, ⟨by decide, by decide, by decide +kernel⟩⟩
theorem lX6_not3 : lkV yX6_not3 cX6_not3 4 (some .int) 0 := ⟨k_1019, s_56, k_7, k_1020, ⟨by decide, by decide, by decide +kernel⟩⟩
theorem lX6_both3 : lkV yX6_both3 cX6_both3 3 (some .int) 0 := ⟨k_1109, s_78, k_7, k_1110, ⟨by decide, by decide, by decide +kernel⟩⟩
theorem lX6_either3 : lkV yX6_either3 cX6_either3 3 (some .int) 0 := ⟨k_1105, s_77, k_7, k_1106, ⟨by decide, by decide, by decide +kernel⟩⟩
theorem lX6_atom2 : lkV yX6_atom2 cX6_atom2 2 (some .int) 0 := ⟨k_1101, s_76, k_7, k_1102, ⟨by decide, by decide, by decide +kernel⟩⟩
theorem lX6_term2 : lkV yX6_term2 cX6_term2 2 (some .int) 0 := ⟨k_1097, s_75, k_7, k_1098, ⟨by decide, by decide, by decide +kernel⟩⟩
theorem lX6_added2 : lkV yX6_added2 cX6_added2 4 (some .int) 0 := ⟨k_1093, s_74, k_7, k_1094, ⟨by decide, by decide, by decide +kernel⟩⟩
theorem lX6_not2 : lkV yX6_not2 cX6_not2 4 (some .int) 0 := ⟨k_1015, s_55, k_7, k_1016, ⟨by decide, by decide, by decide +kernel⟩⟩
theorem lX6_both2 : lkV yX6_both2 cX6_both2 3 (some .int) 0 := ⟨k_1129, s_83, k_7, k_1130, ⟨by decide, by decide, by decide +kernel⟩⟩
theorem lX6_either2 : lkV yX6_either2 cX6_either2 3 (some .int) 0 := ⟨k_1125, s_82, k_7, k_1126, ⟨by decide, by decide, by decide +kernel⟩⟩
theorem lX6_atom1 : lkV yX6_atom1 cX6_atom1 2 (some .int) 0 := ⟨k_1121, s_81, k_7, k_1122, ⟨by decide, by decide, by decide +kernel⟩⟩
theorem lX6_term1 : lkV yX6_term1 cX6_term1 2 (some .int) 0 := ⟨k_1117, s_80, k_7, k_1118, ⟨by decide, by decide, by decide +kernel⟩⟩
theorem lX6_added1 : lkV yX6_added1 cX6_added1 4 (some .int) 0 := ⟨k_1113, s_79, k_7, k_1114, ⟨by decide, by decide, by decide +kernel⟩⟩
theorem lX6_not1 : lkV yX6_not1 cX6_not1 4 (some .int) 0 := ⟨k_1011, s_54, k_7, k_1012, ⟨by decide, by decide, by decide +kernel⟩⟩
theorem lX6_both1 : lkV yX6_both1 cX6_both1 3 (some .int) 0 := ⟨k_1149, s_88, k_7, k_1150, ⟨by decide, by decide, by decide +kernel⟩⟩
theorem lX6_either1 : lkV yX6_either1 cX6_either1 3 (some .int) 0 := ⟨k_1145, s_87, k_7, k_1146, ⟨by decide, by decide, by decide +kernel⟩⟩
theorem lX6_atom0 : lkV yX6_atom0 cX6_atom0 2 (some .int) 0 := ⟨k_1141, s_86, k_7, k_1142, ⟨by decide, by decide, by decide +kernel⟩⟩
theorem lX6_term0 : lkV yX6_term0 cX6_term0 2 (some .int) 0 := ⟨k_1137, s_85, k_7, k_1138, ⟨by decide, by decide, by decide +kernel⟩⟩
theorem lX6_added0 : lkV yX6_added0 cX6_added0 4 (some .int) 0 := ⟨k_1133, s_84, k_7, k_1134, ⟨by decide, by decide, by decide +kernel⟩⟩
theorem lX6_not0 : lkV yX6_not0 cX6_not0 4 (some .int) 0 := ⟨k_1003, s_52, k_7, k_1004, ⟨by decide, by decide, by decide +kernel⟩⟩
theorem lX6_both0 : lkV yX6_both0 cX6_both0 3 (some .int) 0 := ⟨k_999, s_51, k_7, k_1000, ⟨by decide, by decide, by decide +kernel⟩⟩
theorem lX6_either0 : lkV yX6_either0 cX6_either0 3 (some .int) 0 := ⟨k_995, s_50, k_7, k_996, ⟨by decide, by decide, by decide +kernel⟩⟩
theorem lX6_part : lkV yX6_part cX6_part 3 (some .int) 1 := ⟨k_987, s_48, k_7, k_988, ⟨by decide, by decide, by decide +kernel⟩⟩
theorem lX6_read : lkV yX6_read cX6_read 6 (some .int) 2 := ⟨k_963, s_43, k_7, k_964, ⟨by decide, by decide, by decide +kernel⟩⟩
theorem lX6_text : lkV yX6_text cX6_text 2 (some .int) 0 := ⟨k_958, k_959, k_7, k_960, ⟨by decide, by decide, by decide +kernel⟩⟩
theorem lX6_force : lkV yX6_force cX6_force 3 (some .int) 1 := ⟨k_1152, k_1153, k_7, k_1154, ⟨by decide, by decide, by decide +kernel⟩⟩
theorem lX6_says : lkV yX6_says cX6_says 6 (some .int) 3 := ⟨k_1181, s_92, k_7, k_1182, ⟨by decide, by decide, by decide +kernel⟩⟩
theorem lX6_at : lkV yX6_at cX6_at 3 (some .int) 2 := ⟨k_1156, k_1157, k_7, k_1158, ⟨by decide, by decide, by decide +kernel⟩⟩
theorem lX6_asks : lkV yX6_asks cX6_asks 4 (some .int) 3 := ⟨k_1175, k_1176, k_7, k_1177, ⟨by decide, by decide, by decide +kernel⟩⟩
theorem lX6_walks : lkV yX6_walks cX6_walks 5 none 1 := ⟨k_1192, s_93, k_7, k_1193, ⟨by decide, by decide, by decide +kernel⟩⟩
theorem lX6_length : lkV yX6_length cX6_length 4 (some .int) 3 := ⟨k_1187, k_1188, k_7, k_1189, ⟨by decide, by decide, by decide +kernel⟩⟩
theorem lX6_more : lkV yX6_more cX6_more 3 (some .long) 2 := ⟨k_1201, s_94, k_7, k_1202, ⟨by decide, by decide, by decide +kernel⟩⟩
theorem lX6_areUnlike : lkS yX6_areUnlike cX6_areUnlike 4 (some .boolean) 2 := ⟨k_1204, k_7, k_1205, ⟨by decide, by decide, by decide +kernel⟩⟩
theorem lX6_mean : lkV yX6_mean cX6_mean 4 (some .int) 2 := ⟨k_1195, k_1196, k_7, k_1197, ⟨by decide, by decide, by decide +kernel⟩⟩
theorem lX6_half : lkV yX6_half cX6_half 7 (some .int) 2 := ⟨k_1207, k_1208, k_7, k_1209, ⟨by decide, by decide, by decide +kernel⟩⟩
theorem lX6_lays : lkV yX6_lays cX6_lays 4 none 2 := ⟨k_1221, s_96, k_7, k_1222, ⟨by decide, by decide, by decide +kernel⟩⟩
theorem lX6_apartAt : lkV yX6_apartAt cX6_apartAt 3 (some .int) 2 := ⟨k_1229, s_98, k_7, k_1230, ⟨by decide, by decide, by decide +kernel⟩⟩
theorem lX6_doMeet : lkV yX6_doMeet cX6_doMeet 4 (some .boolean) 2 := ⟨k_1225, s_97, k_7, k_1226, ⟨by decide, by decide, by decide +kernel⟩⟩
theorem lX6_firstMeet : lkV yX6_firstMeet cX6_firstMeet 3 (some .int) 1 := ⟨k_1233, s_99, k_7, k_1234, ⟨by decide, by decide, by decide +kernel⟩⟩
theorem lX6_meet : lkV yX6_meet cX6_meet 7 (some .int) 3 := ⟨k_1211, k_1212, k_7, k_1213, ⟨by decide, by decide, by decide +kernel⟩⟩
theorem lX6_lowest : lkS yX6_lowest cX6_lowest 11 (some .long) 3 := ⟨k_1241, k_7, k_1242, ⟨by decide, by decide, by decide +kernel⟩⟩
theorem lX6_when : lkV yX6_when cX6_when 9 (some .long) 3 := ⟨k_1236, k_1237, k_7, k_1238, ⟨by decide, by decide, by decide +kernel⟩⟩
theorem lX6_sure : lkV yX6_sure cX6_sure 4 (some .int) 2 := ⟨k_1244, k_1245, k_7, k_1246, ⟨by decide, by decide, by decide +kernel⟩⟩
theorem lX6_apart : lkV yX6_apart cX6_apart 9 (some .int) 3 := ⟨k_1248, k_1249, k_7, k_1250, ⟨by decide, by decide, by decide +kernel⟩⟩
theorem lX6_notesBad : lkV yX6_notesBad cX6_notesBad 3 (some .int) 1 := ⟨k_1257, s_100, k_7, k_1258, ⟨by decide, by decide, by decide +kernel⟩⟩
theorem lX6_isSo : lkV yX6_isSo cX6_isSo 7 (some .boolean) 3 := ⟨k_1264, s_101, k_7, k_1265, ⟨by decide, by decide, by decide +kernel⟩⟩
theorem lX6_fits : lkV yX6_fits cX6_fits 5 (some .int) 1 := ⟨k_1252, k_1253, k_7, k_1254, ⟨by decide, by decide, by decide +kernel⟩⟩
theorem lX6_wrong : lkV yX6_wrong cX6_wrong 7 (some .int) 3 := ⟨k_1268, k_1269, k_7, k_1270, ⟨by decide, by decide, by decide +kernel⟩⟩
theorem lX6_bitsOf : lkS yX6_bitsOf cX6_bitsOf 3 (some .int) 1 := ⟨k_1276, k_7, k_1277, ⟨by decide, by decide, by decide +kernel⟩⟩
theorem lX6_partsAll : lkV yX6_partsAll cX6_partsAll 6 (some .boolean) 1 := ⟨k_1280, s_102, k_7, k_1281, ⟨by decide, by decide, by decide +kernel⟩⟩
theorem lX6_posts : lkV yX6_posts cX6_posts 4 (some .int) 1 := ⟨k_1272, k_1273, k_7, k_1274, ⟨by decide, by decide, by decide +kernel⟩⟩
theorem lX6_ringBad : lkV yX6_ringBad cX6_ringBad 2 (some .int) 1 := ⟨k_1288, s_103, k_7, k_1289, ⟨by decide, by decide, by decide +kernel⟩⟩
theorem lX6_ring : lkV yX6_ring cX6_ring 3 (some .int) 2 := ⟨k_1292, s_104, k_7, k_1293, ⟨by decide, by decide, by decide +kernel⟩⟩
theorem lX6_beads : lkV yX6_beads cX6_beads 8 (some .int) 1 := ⟨k_1283, k_1284, k_7, k_1285, ⟨by decide, by decide, by decide +kernel⟩⟩
theorem lX6_across : lkV yX6_across cX6_across 3 (some .long) 2 := ⟨k_1300, s_105, k_7, k_1301, ⟨by decide, by decide, by decide +kernel⟩⟩
theorem lX6_heat : lkV yX6_heat cX6_heat 4 (some .int) 1 := ⟨k_1295, k_1296, k_7, k_1297, ⟨by decide, by decide, by decide +kernel⟩⟩
theorem lX6_draws : lkV yX6_draws cX6_draws 6 (some .int) 3 := ⟨k_1309, s_106, k_7, k_1310, ⟨by decide, by decide, by decide +kernel⟩⟩
theorem lX6_drawn : lkV yX6_drawn cX6_drawn 4 (some .int) 3 := ⟨k_1303, k_1304, k_7, k_1305, ⟨by decide, by decide, by decide +kernel⟩⟩
theorem lX6_chance : lkV yX6_chance cX6_chance 8 (some .long) 4 := ⟨k_1313, k_1314, k_7, k_1315, ⟨by decide, by decide, by decide +kernel⟩⟩
theorem lX6_image : lkV yX6_image cX6_image 2 (some .int) 0 := ⟨k_1318, k_1319, k_7, k_1320, ⟨by decide, by decide, by decide +kernel⟩⟩
theorem lX6_back : lkV yX6_back cX6_back 2 (some .int) 0 := ⟨k_1322, k_1323, k_7, k_1324, ⟨by decide, by decide, by decide +kernel⟩⟩
theorem lX6_count : lkV yX6_count cX6_count 4 (some .int) 1 := ⟨k_1326, k_1327, k_7, k_1328, ⟨by decide, by decide, by decide +kernel⟩⟩
theorem lX6_isSheet : lkS yX6_isSheet cX6_isSheet 1 (some .boolean) 1 := ⟨k_1260, k_7, k_1261, ⟨by decide, by decide, by decide +kernel⟩⟩
theorem lX6_sheet : lkV yX6_sheet cX6_sheet 5 (some .int) 3 := ⟨k_1330, k_1331, k_7, k_1332, ⟨by decide, by decide, by decide +kernel⟩⟩
theorem lX6_cell : lkV yX6_cell cX6_cell 4 (some .int) 3 := ⟨k_1335, k_1336, k_7, k_1337, ⟨by decide, by decide, by decide +kernel⟩⟩
theorem lX6_copy : lkV yX6_copy cX6_copy 9 (some .int) 5 := ⟨k_1339, k_1340, k_7, k_1341, ⟨by decide, by decide, by decide +kernel⟩⟩
theorem lX6_points : lkV yX6_points cX6_points 8 (some .int) 4 := ⟨k_1343, k_1344, k_7, k_1345, ⟨by decide, by decide, by decide +kernel⟩⟩
theorem lX6_over : lkS yX6_over cX6_over 1 (some .int) 1 := ⟨k_1353, k_7, k_1354, ⟨by decide, by decide, by decide +kernel⟩⟩
theorem lX6_taken : lkV yX6_taken cX6_taken 4 (some .int) 2 := ⟨k_1349, k_1350, k_7, k_1351, ⟨by decide, by decide, by decide +kernel⟩⟩
theorem lJ6_bitCount_0f7a4 : lkS yJ6_bitCount_0f7a4 cJ6_bitCount_0f7a4 1 (some .int) 1 := ⟨k_659, k_14, k_660, ⟨by decide, by decide, by decide +kernel⟩⟩
theorem lJ0_length_8abf5 : lkV yJ0_length_8abf5 cJ0_length_8abf5 1 (some .int) 0 := ⟨k_303, k_304, k_9, k_305, ⟨by decide, by decide, by decide +kernel⟩⟩
theorem lJ0_charAt_5068e : lkV yJ0_charAt_5068e cJ0_charAt_5068e 2 (some .char) 1 := ⟨k_313, k_314, k_9, k_315, ⟨by decide, by decide, by decide +kernel⟩⟩
theorem lJ0_indexOf_0f7a4 : lkV yJ0_indexOf_0f7a4 cJ0_indexOf_0f7a4 2 (some .int) 1 := ⟨k_363, k_364, k_9, k_365, ⟨by decide, by decide, by decide +kernel⟩⟩
theorem lJ0_indexOf_7cf53 : lkV yJ0_indexOf_7cf53 cJ0_indexOf_7cf53 3 (some .int) 2 := ⟨k_367, k_368, k_9, k_369, ⟨by decide, by decide, by decide +kernel⟩⟩
theorem lJ0_coder_7d493 : lkV yJ0_coder_7d493 cJ0_coder_7d493 1 (some .byte) 0 := ⟨k_307, k_308, k_9, k_309, ⟨by decide, by decide, by decide +kernel⟩⟩
theorem lJ0_isLatin1_aae02 : lkV yJ0_isLatin1_aae02 cJ0_isLatin1_aae02 1 (some .boolean) 0 := ⟨k_317, k_318, k_9, k_319, ⟨by decide, by decide, by decide +kernel⟩⟩
theorem lJ1_charAt_3b067 : lkS yJ1_charAt_3b067 cJ1_charAt_3b067 2 (some .char) 2 := ⟨k_321, k_10, k_322, ⟨by decide, by decide, by decide +kernel⟩⟩
theorem lJ1_canEncode_9a6ad : lkS yJ1_canEncode_9a6ad cJ1_canEncode_9a6ad 1 (some .boolean) 1 := ⟨k_375, k_10, k_376, ⟨by decide, by decide, by decide +kernel⟩⟩
theorem lJ1_indexOf_4cfef : lkS yJ1_indexOf_4cfef cJ1_indexOf_4cfef 4 (some .int) 4 := ⟨k_372, k_10, k_373, ⟨by decide, by decide, by decide +kernel⟩⟩
theorem lJ1_indexOfChar_4cfef : lkS yJ1_indexOfChar_4cfef cJ1_indexOfChar_4cfef 6 (some .int) 4 := ⟨k_382, k_10, k_383, ⟨by decide, by decide, by decide +kernel⟩⟩
theorem lJ0_checkIndex_df160 : lkS yJ0_checkIndex_df160 cJ0_checkIndex_df160 2 none 2 := ⟨k_324, k_9, k_325, ⟨by decide, by decide, by decide +kernel⟩⟩
theorem lJ3_checkIndex_8e157 : lkS yJ3_checkIndex_8e157 cJ3_checkIndex_8e157 3 (some .int) 3 := ⟨k_329, k_11, k_330, ⟨by decide, by decide, by decide +kernel⟩⟩
