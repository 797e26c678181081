theorem dL_960 : decode code 960 = .ok (.iadd, 1) := by decide +kernel
theorem dL_961 : decode code 961 = .ok (.iaload, 1) := by decide +kernel
theorem dL_962 : decode code 962 = .ok (.aload_n 0, 1) := by decide +kernel
theorem dL_963 : decode code 963 = .ok (.iload_n 3, 1) := by decide +kernel
theorem dL_964 : decode code 964 = .ok (.iconst 3, 1) := by decide +kernel
theorem dL_965 : decode code 965 = .ok (.iadd, 1) := by decide +kernel
theorem dL_966 : decode code 966 = .ok (.iaload, 1) := by decide +kernel
theorem dL_967 : decode code 967 = .ok (.aload_n 0, 1) := by decide +kernel
theorem dL_968 : decode code 968 = .ok (.iload_n 3, 1) := by decide +kernel
theorem dL_969 : decode code 969 = .ok (.iconst 4, 1) := by decide +kernel
theorem dL_970 : decode code 970 = .ok (.iadd, 1) := by decide +kernel
theorem dL_971 : decode code 971 = .ok (.iaload, 1) := by decide +kernel
theorem dL_972 : decode code 972 = .ok (.ifCond .eq 7, 3) := by decide +kernel
theorem dL_975 : decode code 975 = .ok (.iconst 1, 1) := by decide +kernel
theorem dL_976 : decode code 976 = .ok (.goto 4, 3) := by decide +kernel
theorem dL_979 : decode code 979 = .ok (.iconst 0, 1) := by decide +kernel
theorem dL_980 : decode code 980 = .ok (.invokevirtual 99, 3) := by decide +kernel
theorem dL_983 : decode code 983 = .ok (.aload_n 2, 1) := by decide +kernel
theorem dL_984 : decode code 984 = .ok (.aload_n 0, 1) := by decide +kernel
theorem dL_985 : decode code 985 = .ok (.iload_n 3, 1) := by decide +kernel
theorem dL_986 : decode code 986 = .ok (.iconst 1, 1) := by decide +kernel
theorem dL_987 : decode code 987 = .ok (.iadd, 1) := by decide +kernel
theorem dL_988 : decode code 988 = .ok (.iaload, 1) := by decide +kernel
theorem dL_989 : decode code 989 = .ok (.aload_n 0, 1) := by decide +kernel
theorem dL_990 : decode code 990 = .ok (.iload_n 3, 1) := by decide +kernel
theorem dL_991 : decode code 991 = .ok (.iconst 2, 1) := by decide +kernel
theorem dL_992 : decode code 992 = .ok (.iadd, 1) := by decide +kernel
theorem dL_993 : decode code 993 = .ok (.iaload, 1) := by decide +kernel
theorem dL_994 : decode code 994 = .ok (.aload_n 0, 1) := by decide +kernel
theorem dL_995 : decode code 995 = .ok (.iload_n 3, 1) := by decide +kernel
theorem dL_996 : decode code 996 = .ok (.iconst 3, 1) := by decide +kernel
theorem dL_997 : decode code 997 = .ok (.iadd, 1) := by decide +kernel
theorem dL_998 : decode code 998 = .ok (.iaload, 1) := by decide +kernel
theorem dL_999 : decode code 999 = .ok (.aload_n 0, 1) := by decide +kernel
theorem dL_1000 : decode code 1000 = .ok (.iload_n 3, 1) := by decide +kernel
theorem dL_1001 : decode code 1001 = .ok (.iconst 4, 1) := by decide +kernel
theorem dL_1002 : decode code 1002 = .ok (.iadd, 1) := by decide +kernel
theorem dL_1003 : decode code 1003 = .ok (.iaload, 1) := by decide +kernel
theorem dL_1004 : decode code 1004 = .ok (.ifCond .eq 7, 3) := by decide +kernel
theorem dL_1007 : decode code 1007 = .ok (.iconst 1, 1) := by decide +kernel
theorem dL_1008 : decode code 1008 = .ok (.goto 4, 3) := by decide +kernel
theorem dL_1011 : decode code 1011 = .ok (.iconst 0, 1) := by decide +kernel
theorem dL_1012 : decode code 1012 = .ok (.invokevirtual 103, 3) := by decide +kernel
theorem dL_1015 : decode code 1015 = .ok (.if_icmp .eq 599, 3) := by decide +kernel
theorem dL_1020 : decode code 1020 = .ok (.aload_n 1, 1) := by decide +kernel
theorem dL_1021 : decode code 1021 = .ok (.aload_n 0, 1) := by decide +kernel
theorem dL_1022 : decode code 1022 = .ok (.iload_n 3, 1) := by decide +kernel
theorem dL_1023 : decode code 1023 = .ok (.iconst 1, 1) := by decide +kernel
theorem dL_1024 : decode code 1024 = .ok (.iadd, 1) := by decide +kernel
theorem dL_1025 : decode code 1025 = .ok (.iaload, 1) := by decide +kernel
theorem dL_1026 : decode code 1026 = .ok (.aload_n 0, 1) := by decide +kernel
theorem dL_1027 : decode code 1027 = .ok (.iload_n 3, 1) := by decide +kernel
theorem dL_1028 : decode code 1028 = .ok (.iconst 2, 1) := by decide +kernel
theorem dL_1029 : decode code 1029 = .ok (.iadd, 1) := by decide +kernel
theorem dL_1030 : decode code 1030 = .ok (.iaload, 1) := by decide +kernel
theorem dL_1031 : decode code 1031 = .ok (.aload_n 0, 1) := by decide +kernel
theorem dL_1032 : decode code 1032 = .ok (.iload_n 3, 1) := by decide +kernel
theorem dL_1033 : decode code 1033 = .ok (.iconst 3, 1) := by decide +kernel
theorem dL_1034 : decode code 1034 = .ok (.iadd, 1) := by decide +kernel
theorem dL_1035 : decode code 1035 = .ok (.iaload, 1) := by decide +kernel
theorem dL_1036 : decode code 1036 = .ok (.invokevirtual 104, 3) := by decide +kernel
theorem dL_1039 : decode code 1039 = .ok (.aload_n 2, 1) := by decide +kernel
theorem dL_1040 : decode code 1040 = .ok (.aload_n 0, 1) := by decide +kernel
theorem dL_1041 : decode code 1041 = .ok (.iload_n 3, 1) := by decide +kernel
theorem dL_1042 : decode code 1042 = .ok (.iconst 1, 1) := by decide +kernel
theorem dL_1043 : decode code 1043 = .ok (.iadd, 1) := by decide +kernel
theorem dL_1044 : decode code 1044 = .ok (.iaload, 1) := by decide +kernel
theorem dL_1045 : decode code 1045 = .ok (.aload_n 0, 1) := by decide +kernel
theorem dL_1046 : decode code 1046 = .ok (.iload_n 3, 1) := by decide +kernel
theorem dL_1047 : decode code 1047 = .ok (.iconst 2, 1) := by decide +kernel
theorem dL_1048 : decode code 1048 = .ok (.iadd, 1) := by decide +kernel
theorem dL_1049 : decode code 1049 = .ok (.iaload, 1) := by decide +kernel
theorem dL_1050 : decode code 1050 = .ok (.aload_n 0, 1) := by decide +kernel
theorem dL_1051 : decode code 1051 = .ok (.iload_n 3, 1) := by decide +kernel
theorem dL_1052 : decode code 1052 = .ok (.iconst 3, 1) := by decide +kernel
theorem dL_1053 : decode code 1053 = .ok (.iadd, 1) := by decide +kernel
theorem dL_1054 : decode code 1054 = .ok (.iaload, 1) := by decide +kernel
theorem dL_1055 : decode code 1055 = .ok (.invokevirtual 107, 3) := by decide +kernel
theorem dL_1058 : decode code 1058 = .ok (.if_icmp .eq 556, 3) := by decide +kernel
theorem dL_1063 : decode code 1063 = .ok (.aload_n 1, 1) := by decide +kernel
theorem dL_1064 : decode code 1064 = .ok (.aload_n 0, 1) := by decide +kernel
theorem dL_1065 : decode code 1065 = .ok (.iload_n 3, 1) := by decide +kernel
theorem dL_1066 : decode code 1066 = .ok (.iconst 1, 1) := by decide +kernel
theorem dL_1067 : decode code 1067 = .ok (.iadd, 1) := by decide +kernel
theorem dL_1068 : decode code 1068 = .ok (.iaload, 1) := by decide +kernel
theorem dL_1069 : decode code 1069 = .ok (.aload_n 0, 1) := by decide +kernel
theorem dL_1070 : decode code 1070 = .ok (.iload_n 3, 1) := by decide +kernel
theorem dL_1071 : decode code 1071 = .ok (.iconst 2, 1) := by decide +kernel
theorem dL_1072 : decode code 1072 = .ok (.iadd, 1) := by decide +kernel
theorem dL_1073 : decode code 1073 = .ok (.iaload, 1) := by decide +kernel
theorem dL_1074 : decode code 1074 = .ok (.invokevirtual 108, 3) := by decide +kernel
theorem dL_1077 : decode code 1077 = .ok (.aload_n 2, 1) := by decide +kernel
theorem dL_1078 : decode code 1078 = .ok (.aload_n 0, 1) := by decide +kernel
theorem dL_1079 : decode code 1079 = .ok (.iload_n 3, 1) := by decide +kernel
theorem dL_1080 : decode code 1080 = .ok (.iconst 1, 1) := by decide +kernel
theorem dL_1081 : decode code 1081 = .ok (.iadd, 1) := by decide +kernel
theorem dL_1082 : decode code 1082 = .ok (.iaload, 1) := by decide +kernel
theorem dL_1083 : decode code 1083 = .ok (.aload_n 0, 1) := by decide +kernel
theorem dL_1084 : decode code 1084 = .ok (.iload_n 3, 1) := by decide +kernel
theorem dL_1085 : decode code 1085 = .ok (.iconst 2, 1) := by decide +kernel
theorem dL_1086 : decode code 1086 = .ok (.iadd, 1) := by decide +kernel
theorem dL_1087 : decode code 1087 = .ok (.iaload, 1) := by decide +kernel
theorem dL_1088 : decode code 1088 = .ok (.invokevirtual 111, 3) := by decide +kernel
theorem dL_1091 : decode code 1091 = .ok (.if_icmp .eq 523, 3) := by decide +kernel
theorem dL_1096 : decode code 1096 = .ok (.aload_n 1, 1) := by decide +kernel
theorem dL_1097 : decode code 1097 = .ok (.aload_n 0, 1) := by decide +kernel
theorem dL_1098 : decode code 1098 = .ok (.iload_n 3, 1) := by decide +kernel
theorem dL_1099 : decode code 1099 = .ok (.iconst 1, 1) := by decide +kernel
theorem dL_1100 : decode code 1100 = .ok (.iadd, 1) := by decide +kernel
theorem dL_1101 : decode code 1101 = .ok (.iaload, 1) := by decide +kernel
theorem dL_1102 : decode code 1102 = .ok (.aload_n 0, 1) := by decide +kernel
theorem dL_1103 : decode code 1103 = .ok (.iload_n 3, 1) := by decide +kernel
theorem dL_1104 : decode code 1104 = .ok (.iconst 2, 1) := by decide +kernel
theorem dL_1105 : decode code 1105 = .ok (.iadd, 1) := by decide +kernel
theorem dL_1106 : decode code 1106 = .ok (.iaload, 1) := by decide +kernel
theorem dL_1107 : decode code 1107 = .ok (.invokevirtual 112, 3) := by decide +kernel
theorem dL_1110 : decode code 1110 = .ok (.aload_n 2, 1) := by decide +kernel
theorem dL_1111 : decode code 1111 = .ok (.aload_n 0, 1) := by decide +kernel
theorem dL_1112 : decode code 1112 = .ok (.iload_n 3, 1) := by decide +kernel
theorem dL_1113 : decode code 1113 = .ok (.iconst 1, 1) := by decide +kernel
theorem dL_1114 : decode code 1114 = .ok (.iadd, 1) := by decide +kernel
theorem dL_1115 : decode code 1115 = .ok (.iaload, 1) := by decide +kernel
theorem dL_1116 : decode code 1116 = .ok (.aload_n 0, 1) := by decide +kernel
theorem dL_1117 : decode code 1117 = .ok (.iload_n 3, 1) := by decide +kernel
theorem dL_1118 : decode code 1118 = .ok (.iconst 2, 1) := by decide +kernel
theorem dL_1119 : decode code 1119 = .ok (.iadd, 1) := by decide +kernel
theorem dL_1120 : decode code 1120 = .ok (.iaload, 1) := by decide +kernel
theorem dL_1121 : decode code 1121 = .ok (.invokevirtual 115, 3) := by decide +kernel
theorem dL_1124 : decode code 1124 = .ok (.if_icmp .eq 490, 3) := by decide +kernel
theorem dL_1129 : decode code 1129 = .ok (.aload_n 1, 1) := by decide +kernel
theorem dL_1130 : decode code 1130 = .ok (.aload_n 0, 1) := by decide +kernel
theorem dL_1131 : decode code 1131 = .ok (.iload_n 3, 1) := by decide +kernel
theorem dL_1132 : decode code 1132 = .ok (.iconst 1, 1) := by decide +kernel
theorem dL_1133 : decode code 1133 = .ok (.iadd, 1) := by decide +kernel
theorem dL_1134 : decode code 1134 = .ok (.iaload, 1) := by decide +kernel
theorem dL_1135 : decode code 1135 = .ok (.aload_n 0, 1) := by decide +kernel
theorem dL_1136 : decode code 1136 = .ok (.iload_n 3, 1) := by decide +kernel
theorem dL_1137 : decode code 1137 = .ok (.iconst 2, 1) := by decide +kernel
theorem dL_1138 : decode code 1138 = .ok (.iadd, 1) := by decide +kernel
theorem dL_1139 : decode code 1139 = .ok (.iaload, 1) := by decide +kernel
theorem dL_1140 : decode code 1140 = .ok (.invokevirtual 116, 3) := by decide +kernel
theorem dL_1143 : decode code 1143 = .ok (.aload_n 2, 1) := by decide +kernel
theorem dL_1144 : decode code 1144 = .ok (.aload_n 0, 1) := by decide +kernel
theorem dL_1145 : decode code 1145 = .ok (.iload_n 3, 1) := by decide +kernel
theorem dL_1146 : decode code 1146 = .ok (.iconst 1, 1) := by decide +kernel
theorem dL_1147 : decode code 1147 = .ok (.iadd, 1) := by decide +kernel
theorem dL_1148 : decode code 1148 = .ok (.iaload, 1) := by decide +kernel
theorem dL_1149 : decode code 1149 = .ok (.aload_n 0, 1) := by decide +kernel
theorem dL_1150 : decode code 1150 = .ok (.iload_n 3, 1) := by decide +kernel
theorem dL_1151 : decode code 1151 = .ok (.iconst 2, 1) := by decide +kernel
theorem dL_1152 : decode code 1152 = .ok (.iadd, 1) := by decide +kernel
theorem dL_1153 : decode code 1153 = .ok (.iaload, 1) := by decide +kernel
theorem dL_1154 : decode code 1154 = .ok (.invokevirtual 119, 3) := by decide +kernel
theorem dL_1157 : decode code 1157 = .ok (.if_icmp .eq 457, 3) := by decide +kernel
theorem dL_1162 : decode code 1162 = .ok (.aload_n 1, 1) := by decide +kernel
theorem dL_1163 : decode code 1163 = .ok (.aload_n 0, 1) := by decide +kernel
theorem dL_1164 : decode code 1164 = .ok (.iload_n 3, 1) := by decide +kernel
theorem dL_1165 : decode code 1165 = .ok (.iconst 1, 1) := by decide +kernel
theorem dL_1166 : decode code 1166 = .ok (.iadd, 1) := by decide +kernel
theorem dL_1167 : decode code 1167 = .ok (.iaload, 1) := by decide +kernel
theorem dL_1168 : decode code 1168 = .ok (.invokevirtual 120, 3) := by decide +kernel
theorem dL_1171 : decode code 1171 = .ok (.aload_n 2, 1) := by decide +kernel
theorem dL_1172 : decode code 1172 = .ok (.aload_n 0, 1) := by decide +kernel
theorem dL_1173 : decode code 1173 = .ok (.iload_n 3, 1) := by decide +kernel
theorem dL_1174 : decode code 1174 = .ok (.iconst 1, 1) := by decide +kernel
theorem dL_1175 : decode code 1175 = .ok (.iadd, 1) := by decide +kernel
theorem dL_1176 : decode code 1176 = .ok (.iaload, 1) := by decide +kernel
theorem dL_1177 : decode code 1177 = .ok (.invokevirtual 123, 3) := by decide +kernel
theorem dL_1180 : decode code 1180 = .ok (.if_icmp .eq 434, 3) := by decide +kernel
theorem dL_1185 : decode code 1185 = .ok (.aload_n 1, 1) := by decide +kernel
theorem dL_1186 : decode code 1186 = .ok (.aload_n 0, 1) := by decide +kernel
theorem dL_1187 : decode code 1187 = .ok (.iload_n 3, 1) := by decide +kernel
theorem dL_1188 : decode code 1188 = .ok (.iconst 1, 1) := by decide +kernel
theorem dL_1189 : decode code 1189 = .ok (.iadd, 1) := by decide +kernel
theorem dL_1190 : decode code 1190 = .ok (.iaload, 1) := by decide +kernel
theorem dL_1191 : decode code 1191 = .ok (.aload_n 0, 1) := by decide +kernel
theorem dL_1192 : decode code 1192 = .ok (.iload_n 3, 1) := by decide +kernel
theorem dL_1193 : decode code 1193 = .ok (.iconst 2, 1) := by decide +kernel
theorem dL_1194 : decode code 1194 = .ok (.iadd, 1) := by decide +kernel
theorem dL_1195 : decode code 1195 = .ok (.iaload, 1) := by decide +kernel
theorem dL_1196 : decode code 1196 = .ok (.aload_n 0, 1) := by decide +kernel
theorem dL_1197 : decode code 1197 = .ok (.iload_n 3, 1) := by decide +kernel
theorem dL_1198 : decode code 1198 = .ok (.iconst 3, 1) := by decide +kernel
theorem dL_1199 : decode code 1199 = .ok (.iadd, 1) := by decide +kernel
theorem dL_1200 : decode code 1200 = .ok (.iaload, 1) := by decide +kernel
theorem dL_1201 : decode code 1201 = .ok (.invokevirtual 124, 3) := by decide +kernel
theorem dL_1204 : decode code 1204 = .ok (.aload_n 2, 1) := by decide +kernel
theorem dL_1205 : decode code 1205 = .ok (.aload_n 0, 1) := by decide +kernel
theorem dL_1206 : decode code 1206 = .ok (.iload_n 3, 1) := by decide +kernel
theorem dL_1207 : decode code 1207 = .ok (.iconst 1, 1) := by decide +kernel
theorem dL_1208 : decode code 1208 = .ok (.iadd, 1) := by decide +kernel
theorem dL_1209 : decode code 1209 = .ok (.iaload, 1) := by decide +kernel
theorem dL_1210 : decode code 1210 = .ok (.aload_n 0, 1) := by decide +kernel
theorem dL_1211 : decode code 1211 = .ok (.iload_n 3, 1) := by decide +kernel
theorem dL_1212 : decode code 1212 = .ok (.iconst 2, 1) := by decide +kernel
theorem dL_1213 : decode code 1213 = .ok (.iadd, 1) := by decide +kernel
theorem dL_1214 : decode code 1214 = .ok (.iaload, 1) := by decide +kernel
theorem dL_1215 : decode code 1215 = .ok (.aload_n 0, 1) := by decide +kernel
theorem dL_1216 : decode code 1216 = .ok (.iload_n 3, 1) := by decide +kernel
theorem dL_1217 : decode code 1217 = .ok (.iconst 3, 1) := by decide +kernel
theorem dL_1218 : decode code 1218 = .ok (.iadd, 1) := by decide +kernel
theorem dL_1219 : decode code 1219 = .ok (.iaload, 1) := by decide +kernel
theorem dL_1220 : decode code 1220 = .ok (.invokevirtual 127, 3) := by decide +kernel
theorem dL_1223 : decode code 1223 = .ok (.if_icmp .eq 391, 3) := by decide +kernel
theorem dL_1228 : decode code 1228 = .ok (.aload_n 1, 1) := by decide +kernel
theorem dL_1229 : decode code 1229 = .ok (.aload_n 0, 1) := by decide +kernel
