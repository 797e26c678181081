/-! the law's cases -/
section LC
variable {p : Program} {l : Launch} {e : Env} {s : State} {m : MethodId} {args : Array Value} {below : List Frame} {meth : Method} {c : Code} {Q : State → Prop} {D : va_G} {ar : Nat → ClassId} {b : Nat} {w : zcW} {n : Nat} {cells slots : Nat} {o : olP} {σ : Nat → Nat → Int} {a0 L : Nat} {xs : Nat → Int32} {i : Nat}
theorem lc_19 (E : lwX p m c s args D ar b o a0 L xs) (hi : i + 8 ≤ L) (hf : cells + 130 ≤ 600000 ∧ slots + 7523 ≤ 7302250) (hS : LS9 ar b o.2.1 σ w n) (k : ∀ σ9 w9 n9, LS9 ar b o.2.1 σ9 w9 n9 → hvV p l e room_1 s m args below meth c 4 (FB9 b) (cells + 130) (slots + 7523) Q (lwI D ar b s.heap σ9 w9 n9) 1614 (lwL a0 b i) []) : hvV p l e room_1 s m args below meth c 4 (FB9 b) cells slots Q (lwI D ar b s.heap σ w n) 951 (lwL a0 b i) [] := by
  obtain ⟨C, K, O, htx, X, ha, hsb, hL⟩ := E
  obtain ⟨fr, lo, mc, ms, fq, lq, r, σ9, hb9, hz, hm⟩ := lop_why (l := l) (D := D) (B := BB9 b) ((xs (i + 1)).toInt) ((xs (i + 2)).toInt) ((xs (i + 3)).toInt) (!decide ((xs (i + 4)).toInt = 0)) (inI_toInt _) (inI_toInt _) (inI_toInt _) hS
  obtain ⟨fs, hw⟩ := hS.b
  refine hv_aload_n C 1 2 dL_951 rfl rfl ?_
  refine lw_arg 1 C X ha hsb hL (by omega) dL_952 dL_953 dL_954 dL_955 dL_956 ?_
  refine lw_arg 2 C X ha hsb hL (by omega) dL_957 dL_958 dL_959 dL_960 dL_961 ?_
  refine lw_arg 3 C X ha hsb hL (by omega) dL_962 dL_963 dL_964 dL_965 dL_966 ?_
  refine lw_arg 4 C X ha hsb hL (by omega) dL_967 dL_968 dL_969 dL_970 dL_971 ?_
  refine lw_bool C (inI_toInt _) dL_972 dL_975 dL_976 dL_979 ?_
  refine lw_callC [.int (iz (xs (i + 1)).toInt), .int (iz (xs (i + 2)).toInt), .int (iz (xs (i + 3)).toInt), .int (iz (xb (!decide ((xs (i + 4)).toInt = 0))))] [] C K O hsb hw hz ck_L_99 (by show fr + 1 ≤ 2048 ∧ 8 + (6 + 11) + lo ≤ 84000; omega) (by show cells + mc ≤ 600000 ∧ slots + ms ≤ 7302250; omega) rfl (Nat.le_of_ble_eq_true rfl) (fun r9 w9 n9 z => z.2.n) dL_980 (fun r9 w9 n9 z => ?_)
  obtain ⟨rfl, hS2⟩ := z
  refine hv_aload_n C 2 1 dL_983 rfl rfl ?_
  refine lw_arg 1 C X ha hsb hL (by omega) dL_984 dL_985 dL_986 dL_987 dL_988 ?_
  refine lw_arg 2 C X ha hsb hL (by omega) dL_989 dL_990 dL_991 dL_992 dL_993 ?_
  refine lw_arg 3 C X ha hsb hL (by omega) dL_994 dL_995 dL_996 dL_997 dL_998 ?_
  refine lw_arg 4 C X ha hsb hL (by omega) dL_999 dL_1000 dL_1001 dL_1002 dL_1003 ?_
  refine lw_bool C (inI_toInt _) dL_1004 dL_1007 dL_1008 dL_1011 ?_
  refine lw_callM [.int (iz (xs (i + 1)).toInt), .int (iz (xs (i + 2)).toInt), .int (iz (xs (i + 3)).toInt), .int (iz (xb (!decide ((xs (i + 4)).toInt = 0))))] [.int (iz r)] C K hm ck_L_103 (by show fq + 1 ≤ 2048 ∧ 8 + (5 + 11) + lq ≤ 84000; omega) (by show cells + mc ≤ 600000 ∧ slots + ms ≤ 7302250; omega) rfl (Nat.le_of_ble_eq_true rfl) dL_1012 ?_
  refine lw_eq (x := iz r) (stk := []) 1614 C dL_1015 rfl ?_
  exact hv_widen (cells + 130) (slots + 7523) (by omega) (by omega) (k _ _ _ hS2)
theorem lc_20 (E : lwX p m c s args D ar b o a0 L xs) (hi : i + 8 ≤ L) (hf : cells + 130 ≤ 600000 ∧ slots + 7523 ≤ 7302250) (hS : LS9 ar b o.2.1 σ w n) (k : ∀ σ9 w9 n9, LS9 ar b o.2.1 σ9 w9 n9 → hvV p l e room_1 s m args below meth c 4 (FB9 b) (cells + 130) (slots + 7523) Q (lwI D ar b s.heap σ9 w9 n9) 1614 (lwL a0 b i) []) : hvV p l e room_1 s m args below meth c 4 (FB9 b) cells slots Q (lwI D ar b s.heap σ w n) 1020 (lwL a0 b i) [] := by
  obtain ⟨C, K, O, htx, X, ha, hsb, hL⟩ := E
  obtain ⟨fr, lo, mc, ms, fq, lq, r, σ9, hb9, hz, hm⟩ := lop_sends (l := l) (D := D) (B := BB9 b) ((xs (i + 1)).toInt) ((xs (i + 2)).toInt) ((xs (i + 3)).toInt) (inI_toInt _) (inI_toInt _) (inI_toInt _) hS
  obtain ⟨fs, hw⟩ := hS.b
  refine hv_aload_n C 1 2 dL_1020 rfl rfl ?_
  refine lw_arg 1 C X ha hsb hL (by omega) dL_1021 dL_1022 dL_1023 dL_1024 dL_1025 ?_
  refine lw_arg 2 C X ha hsb hL (by omega) dL_1026 dL_1027 dL_1028 dL_1029 dL_1030 ?_
  refine lw_arg 3 C X ha hsb hL (by omega) dL_1031 dL_1032 dL_1033 dL_1034 dL_1035 ?_
  refine lw_callC [.int (iz (xs (i + 1)).toInt), .int (iz (xs (i + 2)).toInt), .int (iz (xs (i + 3)).toInt)] [] C K O hsb hw hz ck_L_104 (by show fr + 1 ≤ 2048 ∧ 8 + (4 + 11) + lo ≤ 84000; omega) (by show cells + mc ≤ 600000 ∧ slots + ms ≤ 7302250; omega) rfl (Nat.le_of_ble_eq_true rfl) (fun r9 w9 n9 z => z.2.n) dL_1036 (fun r9 w9 n9 z => ?_)
  obtain ⟨rfl, hS2⟩ := z
  refine hv_aload_n C 2 1 dL_1039 rfl rfl ?_
  refine lw_arg 1 C X ha hsb hL (by omega) dL_1040 dL_1041 dL_1042 dL_1043 dL_1044 ?_
  refine lw_arg 2 C X ha hsb hL (by omega) dL_1045 dL_1046 dL_1047 dL_1048 dL_1049 ?_
  refine lw_arg 3 C X ha hsb hL (by omega) dL_1050 dL_1051 dL_1052 dL_1053 dL_1054 ?_
  refine lw_callM [.int (iz (xs (i + 1)).toInt), .int (iz (xs (i + 2)).toInt), .int (iz (xs (i + 3)).toInt)] [.int (iz r)] C K hm ck_L_107 (by show fq + 1 ≤ 2048 ∧ 8 + (4 + 11) + lq ≤ 84000; omega) (by show cells + mc ≤ 600000 ∧ slots + ms ≤ 7302250; omega) rfl (Nat.le_of_ble_eq_true rfl) dL_1055 ?_
  refine lw_eq (x := iz r) (stk := []) 1614 C dL_1058 rfl ?_
  exact hv_widen (cells + 130) (slots + 7523) (by omega) (by omega) (k _ _ _ hS2)
theorem lc_21 (E : lwX p m c s args D ar b o a0 L xs) (hi : i + 8 ≤ L) (hf : cells + 130 ≤ 600000 ∧ slots + 7523 ≤ 7302250) (hS : LS9 ar b o.2.1 σ w n) (k : ∀ σ9 w9 n9, LS9 ar b o.2.1 σ9 w9 n9 → hvV p l e room_1 s m args below meth c 4 (FB9 b) (cells + 130) (slots + 7523) Q (lwI D ar b s.heap σ9 w9 n9) 1614 (lwL a0 b i) []) : hvV p l e room_1 s m args below meth c 4 (FB9 b) cells slots Q (lwI D ar b s.heap σ w n) 1063 (lwL a0 b i) [] := by
  obtain ⟨C, K, O, htx, X, ha, hsb, hL⟩ := E
  obtain ⟨fr, lo, mc, ms, fq, lq, r, σ9, hb9, hz, hm⟩ := lop_sent (l := l) (D := D) (B := BB9 b) ((xs (i + 1)).toInt) ((xs (i + 2)).toInt) (inI_toInt _) (inI_toInt _) hS
  obtain ⟨fs, hw⟩ := hS.b
  refine hv_aload_n C 1 2 dL_1063 rfl rfl ?_
  refine lw_arg 1 C X ha hsb hL (by omega) dL_1064 dL_1065 dL_1066 dL_1067 dL_1068 ?_
  refine lw_arg 2 C X ha hsb hL (by omega) dL_1069 dL_1070 dL_1071 dL_1072 dL_1073 ?_
  refine lw_callC [.int (iz (xs (i + 1)).toInt), .int (iz (xs (i + 2)).toInt)] [] C K O hsb hw hz ck_L_108 (by show fr + 1 ≤ 2048 ∧ 8 + (6 + 11) + lo ≤ 84000; omega) (by show cells + mc ≤ 600000 ∧ slots + ms ≤ 7302250; omega) rfl (Nat.le_of_ble_eq_true rfl) (fun r9 w9 n9 z => z.2.n) dL_1074 (fun r9 w9 n9 z => ?_)
  obtain ⟨rfl, hS2⟩ := z
  refine hv_aload_n C 2 1 dL_1077 rfl rfl ?_
  refine lw_arg 1 C X ha hsb hL (by omega) dL_1078 dL_1079 dL_1080 dL_1081 dL_1082 ?_
  refine lw_arg 2 C X ha hsb hL (by omega) dL_1083 dL_1084 dL_1085 dL_1086 dL_1087 ?_
  refine lw_callM [.int (iz (xs (i + 1)).toInt), .int (iz (xs (i + 2)).toInt)] [.int (iz r)] C K hm ck_L_111 (by show fq + 1 ≤ 2048 ∧ 8 + (3 + 11) + lq ≤ 84000; omega) (by show cells + mc ≤ 600000 ∧ slots + ms ≤ 7302250; omega) rfl (Nat.le_of_ble_eq_true rfl) dL_1088 ?_
  refine lw_eq (x := iz r) (stk := []) 1614 C dL_1091 rfl ?_
  exact hv_widen (cells + 130) (slots + 7523) (by omega) (by omega) (k _ _ _ hS2)
theorem lc_22 (E : lwX p m c s args D ar b o a0 L xs) (hi : i + 8 ≤ L) (hf : cells + 130 ≤ 600000 ∧ slots + 7523 ≤ 7302250) (hS : LS9 ar b o.2.1 σ w n) (k : ∀ σ9 w9 n9, LS9 ar b o.2.1 σ9 w9 n9 → hvV p l e room_1 s m args below meth c 4 (FB9 b) (cells + 130) (slots + 7523) Q (lwI D ar b s.heap σ9 w9 n9) 1614 (lwL a0 b i) []) : hvV p l e room_1 s m args below meth c 4 (FB9 b) cells slots Q (lwI D ar b s.heap σ w n) 1096 (lwL a0 b i) [] := by
  obtain ⟨C, K, O, htx, X, ha, hsb, hL⟩ := E
  obtain ⟨fr, lo, mc, ms, fq, lq, r, σ9, hb9, hz, hm⟩ := lop_miles (l := l) (D := D) (B := BB9 b) ((xs (i + 1)).toInt) ((xs (i + 2)).toInt) (inI_toInt _) (inI_toInt _) hS
  obtain ⟨fs, hw⟩ := hS.b
  refine hv_aload_n C 1 2 dL_1096 rfl rfl ?_
  refine lw_arg 1 C X ha hsb hL (by omega) dL_1097 dL_1098 dL_1099 dL_1100 dL_1101 ?_
  refine lw_arg 2 C X ha hsb hL (by omega) dL_1102 dL_1103 dL_1104 dL_1105 dL_1106 ?_
  refine lw_callC [.int (iz (xs (i + 1)).toInt), .int (iz (xs (i + 2)).toInt)] [] C K O hsb hw hz ck_L_112 (by show fr + 1 ≤ 2048 ∧ 8 + (3 + 11) + lo ≤ 84000; omega) (by show cells + mc ≤ 600000 ∧ slots + ms ≤ 7302250; omega) rfl (Nat.le_of_ble_eq_true rfl) (fun r9 w9 n9 z => z.2.n) dL_1107 (fun r9 w9 n9 z => ?_)
  obtain ⟨rfl, hS2⟩ := z
  refine hv_aload_n C 2 1 dL_1110 rfl rfl ?_
  refine lw_arg 1 C X ha hsb hL (by omega) dL_1111 dL_1112 dL_1113 dL_1114 dL_1115 ?_
  refine lw_arg 2 C X ha hsb hL (by omega) dL_1116 dL_1117 dL_1118 dL_1119 dL_1120 ?_
  refine lw_callM [.int (iz (xs (i + 1)).toInt), .int (iz (xs (i + 2)).toInt)] [.int (iz r)] C K hm ck_L_115 (by show fq + 1 ≤ 2048 ∧ 8 + (4 + 11) + lq ≤ 84000; omega) (by show cells + mc ≤ 600000 ∧ slots + ms ≤ 7302250; omega) rfl (Nat.le_of_ble_eq_true rfl) dL_1121 ?_
  refine lw_eq (x := iz r) (stk := []) 1614 C dL_1124 rfl ?_
  exact hv_widen (cells + 130) (slots + 7523) (by omega) (by omega) (k _ _ _ hS2)
theorem lc_23 (E : lwX p m c s args D ar b o a0 L xs) (hi : i + 8 ≤ L) (hf : cells + 130 ≤ 600000 ∧ slots + 7523 ≤ 7302250) (hS : LS9 ar b o.2.1 σ w n) (k : ∀ σ9 w9 n9, LS9 ar b o.2.1 σ9 w9 n9 → hvV p l e room_1 s m args below meth c 4 (FB9 b) (cells + 130) (slots + 7523) Q (lwI D ar b s.heap σ9 w9 n9) 1614 (lwL a0 b i) []) : hvV p l e room_1 s m args below meth c 4 (FB9 b) cells slots Q (lwI D ar b s.heap σ w n) 1129 (lwL a0 b i) [] := by
  obtain ⟨C, K, O, htx, X, ha, hsb, hL⟩ := E
  obtain ⟨fr, lo, mc, ms, fq, lq, r, σ9, hb9, hz, hm⟩ := lop_string (l := l) (D := D) (B := BB9 b) ((xs (i + 1)).toInt) ((xs (i + 2)).toInt) (inI_toInt _) (inI_toInt _) hS
  obtain ⟨fs, hw⟩ := hS.b
  refine hv_aload_n C 1 2 dL_1129 rfl rfl ?_
  refine lw_arg 1 C X ha hsb hL (by omega) dL_1130 dL_1131 dL_1132 dL_1133 dL_1134 ?_
  refine lw_arg 2 C X ha hsb hL (by omega) dL_1135 dL_1136 dL_1137 dL_1138 dL_1139 ?_
  refine lw_callC [.int (iz (xs (i + 1)).toInt), .int (iz (xs (i + 2)).toInt)] [] C K O hsb hw hz ck_L_116 (by show fr + 1 ≤ 2048 ∧ 8 + (3 + 11) + lo ≤ 84000; omega) (by show cells + mc ≤ 600000 ∧ slots + ms ≤ 7302250; omega) rfl (Nat.le_of_ble_eq_true rfl) (fun r9 w9 n9 z => z.2.n) dL_1140 (fun r9 w9 n9 z => ?_)
  obtain ⟨rfl, hS2⟩ := z
  refine hv_aload_n C 2 1 dL_1143 rfl rfl ?_
  refine lw_arg 1 C X ha hsb hL (by omega) dL_1144 dL_1145 dL_1146 dL_1147 dL_1148 ?_
  refine lw_arg 2 C X ha hsb hL (by omega) dL_1149 dL_1150 dL_1151 dL_1152 dL_1153 ?_
  refine lw_callM [.int (iz (xs (i + 1)).toInt), .int (iz (xs (i + 2)).toInt)] [.int (iz r)] C K hm ck_L_119 (by show fq + 1 ≤ 2048 ∧ 8 + (3 + 11) + lq ≤ 84000; omega) (by show cells + mc ≤ 600000 ∧ slots + ms ≤ 7302250; omega) rfl (Nat.le_of_ble_eq_true rfl) dL_1154 ?_
  refine lw_eq (x := iz r) (stk := []) 1614 C dL_1157 rfl ?_
  exact hv_widen (cells + 130) (slots + 7523) (by omega) (by omega) (k _ _ _ hS2)
theorem lc_24 (E : lwX p m c s args D ar b o a0 L xs) (hi : i + 8 ≤ L) (hf : cells + 130 ≤ 600000 ∧ slots + 7523 ≤ 7302250) (hS : LS9 ar b o.2.1 σ w n) (k : ∀ σ9 w9 n9, LS9 ar b o.2.1 σ9 w9 n9 → hvV p l e room_1 s m args below meth c 4 (FB9 b) (cells + 130) (slots + 7523) Q (lwI D ar b s.heap σ9 w9 n9) 1614 (lwL a0 b i) []) : hvV p l e room_1 s m args below meth c 4 (FB9 b) cells slots Q (lwI D ar b s.heap σ w n) 1162 (lwL a0 b i) [] := by
  obtain ⟨C, K, O, htx, X, ha, hsb, hL⟩ := E
  obtain ⟨fr, lo, mc, ms, fq, lq, r, σ9, hb9, hz, hm⟩ := lop_hands (l := l) (D := D) (B := BB9 b) ((xs (i + 1)).toInt) (inI_toInt _) hS
  obtain ⟨fs, hw⟩ := hS.b
  refine hv_aload_n C 1 2 dL_1162 rfl rfl ?_
  refine lw_arg 1 C X ha hsb hL (by omega) dL_1163 dL_1164 dL_1165 dL_1166 dL_1167 ?_
  refine lw_callC [.int (iz (xs (i + 1)).toInt)] [] C K O hsb hw hz ck_L_120 (by show fr + 1 ≤ 2048 ∧ 8 + (2 + 11) + lo ≤ 84000; omega) (by show cells + mc ≤ 600000 ∧ slots + ms ≤ 7302250; omega) rfl (Nat.le_of_ble_eq_true rfl) (fun r9 w9 n9 z => z.2.n) dL_1168 (fun r9 w9 n9 z => ?_)
  obtain ⟨rfl, hS2⟩ := z
  refine hv_aload_n C 2 1 dL_1171 rfl rfl ?_
  refine lw_arg 1 C X ha hsb hL (by omega) dL_1172 dL_1173 dL_1174 dL_1175 dL_1176 ?_
  refine lw_callM [.int (iz (xs (i + 1)).toInt)] [.int (iz r)] C K hm ck_L_123 (by show fq + 1 ≤ 2048 ∧ 8 + (2 + 11) + lq ≤ 84000; omega) (by show cells + mc ≤ 600000 ∧ slots + ms ≤ 7302250; omega) rfl (Nat.le_of_ble_eq_true rfl) dL_1177 ?_
  refine lw_eq (x := iz r) (stk := []) 1614 C dL_1180 rfl ?_
  exact hv_widen (cells + 130) (slots + 7523) (by omega) (by omega) (k _ _ _ hS2)
theorem lc_25 (E : lwX p m c s args D ar b o a0 L xs) (hi : i + 8 ≤ L) (hf : cells + 130 ≤ 600000 ∧ slots + 7523 ≤ 7302250) (hS : LS9 ar b o.2.1 σ w n) (k : ∀ σ9 w9 n9, LS9 ar b o.2.1 σ9 w9 n9 → hvV p l e room_1 s m args below meth c 4 (FB9 b) (cells + 130) (slots + 7523) Q (lwI D ar b s.heap σ9 w9 n9) 1614 (lwL a0 b i) []) : hvV p l e room_1 s m args below meth c 4 (FB9 b) cells slots Q (lwI D ar b s.heap σ w n) 1185 (lwL a0 b i) [] := by
  obtain ⟨C, K, O, htx, X, ha, hsb, hL⟩ := E
  obtain ⟨fr, lo, mc, ms, fq, lq, r, σ9, hb9, hz, hm⟩ := lop_change (l := l) (D := D) (B := BB9 b) ((xs (i + 1)).toInt) ((xs (i + 2)).toInt) ((xs (i + 3)).toInt) (inI_toInt _) (inI_toInt _) (inI_toInt _) hS
  obtain ⟨fs, hw⟩ := hS.b
  refine hv_aload_n C 1 2 dL_1185 rfl rfl ?_
  refine lw_arg 1 C X ha hsb hL (by omega) dL_1186 dL_1187 dL_1188 dL_1189 dL_1190 ?_
  refine lw_arg 2 C X ha hsb hL (by omega) dL_1191 dL_1192 dL_1193 dL_1194 dL_1195 ?_
  refine lw_arg 3 C X ha hsb hL (by omega) dL_1196 dL_1197 dL_1198 dL_1199 dL_1200 ?_
  refine lw_callC [.int (iz (xs (i + 1)).toInt), .int (iz (xs (i + 2)).toInt), .int (iz (xs (i + 3)).toInt)] [] C K O hsb hw hz ck_L_124 (by show fr + 1 ≤ 2048 ∧ 8 + (5 + 11) + lo ≤ 84000; omega) (by show cells + mc ≤ 600000 ∧ slots + ms ≤ 7302250; omega) rfl (Nat.le_of_ble_eq_true rfl) (fun r9 w9 n9 z => z.2.n) dL_1201 (fun r9 w9 n9 z => ?_)
  obtain ⟨rfl, hS2⟩ := z
  refine hv_aload_n C 2 1 dL_1204 rfl rfl ?_
  refine lw_arg 1 C X ha hsb hL (by omega) dL_1205 dL_1206 dL_1207 dL_1208 dL_1209 ?_
  refine lw_arg 2 C X ha hsb hL (by omega) dL_1210 dL_1211 dL_1212 dL_1213 dL_1214 ?_
  refine lw_arg 3 C X ha hsb hL (by omega) dL_1215 dL_1216 dL_1217 dL_1218 dL_1219 ?_
  refine lw_callM [.int (iz (xs (i + 1)).toInt), .int (iz (xs (i + 2)).toInt), .int (iz (xs (i + 3)).toInt)] [.int (iz r)] C K hm ck_L_127 (by show fq + 1 ≤ 2048 ∧ 8 + (4 + 11) + lq ≤ 84000; omega) (by show cells + mc ≤ 600000 ∧ slots + ms ≤ 7302250; omega) rfl (Nat.le_of_ble_eq_true rfl) dL_1220 ?_
  refine lw_eq (x := iz r) (stk := []) 1614 C dL_1223 rfl ?_
  exact hv_widen (cells + 130) (slots + 7523) (by omega) (by omega) (k _ _ _ hS2)
theorem lc_26 (E : lwX p m c s args D ar b o a0 L xs) (hi : i + 8 ≤ L) (hf : cells + 130 ≤ 600000 ∧ slots + 7523 ≤ 7302250) (hS : LS9 ar b o.2.1 σ w n) (k : ∀ σ9 w9 n9, LS9 ar b o.2.1 σ9 w9 n9 → hvV p l e room_1 s m args below meth c 4 (FB9 b) (cells + 130) (slots + 7523) Q (lwI D ar b s.heap σ9 w9 n9) 1614 (lwL a0 b i) []) : hvV p l e room_1 s m args below meth c 4 (FB9 b) cells slots Q (lwI D ar b s.heap σ w n) 1228 (lwL a0 b i) [] := by
  obtain ⟨C, K, O, htx, X, ha, hsb, hL⟩ := E
  obtain ⟨fr, lo, mc, ms, fq, lq, r, σ9, hb9, hz, hm⟩ := lop_paid (l := l) (D := D) (B := BB9 b) ((xs (i + 1)).toInt) ((xs (i + 2)).toInt) ((xs (i + 3)).toInt) (inI_toInt _) (inI_toInt _) (inI_toInt _) hS
  obtain ⟨fs, hw⟩ := hS.b
  refine hv_aload_n C 1 2 dL_1228 rfl rfl ?_
  refine lw_arg 1 C X ha hsb hL (by omega) dL_1229 dL_1230 dL_1231 dL_1232 dL_1233 ?_
  refine lw_arg 2 C X ha hsb hL (by omega) dL_1234 dL_1235 dL_1236 dL_1237 dL_1238 ?_
  refine lw_arg 3 C X ha hsb hL (by omega) dL_1239 dL_1240 dL_1241 dL_1242 dL_1243 ?_
  refine lw_callC [.int (iz (xs (i + 1)).toInt), .int (iz (xs (i + 2)).toInt), .int (iz (xs (i + 3)).toInt)] [] C K O hsb hw hz ck_L_128 (by show fr + 1 ≤ 2048 ∧ 8 + (7 + 11) + lo ≤ 84000; omega) (by show cells + mc ≤ 600000 ∧ slots + ms ≤ 7302250; omega) rfl (Nat.le_of_ble_eq_true rfl) (fun r9 w9 n9 z => z.2.n) dL_1244 (fun r9 w9 n9 z => ?_)
  obtain ⟨rfl, hS2⟩ := z
  refine hv_aload_n C 2 1 dL_1247 rfl rfl ?_
  refine lw_arg 1 C X ha hsb hL (by omega) dL_1248 dL_1249 dL_1250 dL_1251 dL_1252 ?_
  refine lw_arg 2 C X ha hsb hL (by omega) dL_1253 dL_1254 dL_1255 dL_1256 dL_1257 ?_
  refine lw_arg 3 C X ha hsb hL (by omega) dL_1258 dL_1259 dL_1260 dL_1261 dL_1262 ?_
  refine lw_callM [.int (iz (xs (i + 1)).toInt), .int (iz (xs (i + 2)).toInt), .int (iz (xs (i + 3)).toInt)] [.int (iz r)] C K hm ck_L_131 (by show fq + 1 ≤ 2048 ∧ 8 + (8 + 11) + lq ≤ 84000; omega) (by show cells + mc ≤ 600000 ∧ slots + ms ≤ 7302250; omega) rfl (Nat.le_of_ble_eq_true rfl) dL_1263 ?_
  refine lw_eq (x := iz r) (stk := []) 1614 C dL_1266 rfl ?_
  exact hv_widen (cells + 130) (slots + 7523) (by omega) (by omega) (k _ _ _ hS2)
theorem lc_27 (E : lwX p m c s args D ar b o a0 L xs) (hi : i + 8 ≤ L) (hf : cells + 130 ≤ 600000 ∧ slots + 7523 ≤ 7302250) (hS : LS9 ar b o.2.1 σ w n) (k : ∀ σ9 w9 n9, LS9 ar b o.2.1 σ9 w9 n9 → hvV p l e room_1 s m args below meth c 4 (FB9 b) (cells + 130) (slots + 7523) Q (lwI D ar b s.heap σ9 w9 n9) 1614 (lwL a0 b i) []) : hvV p l e room_1 s m args below meth c 4 (FB9 b) cells slots Q (lwI D ar b s.heap σ w n) 1271 (lwL a0 b i) [] := by
  obtain ⟨C, K, O, htx, X, ha, hsb, hL⟩ := E
  obtain ⟨fr, lo, mc, ms, fq, lq, r, σ9, hb9, hz, hm⟩ := lop_owed (l := l) (D := D) (B := BB9 b) ((xs (i + 1)).toInt) ((xs (i + 2)).toInt) ((xs (i + 3)).toInt) (inI_toInt _) (inI_toInt _) (inI_toInt _) hS
  obtain ⟨fs, hw⟩ := hS.b
  refine hv_aload_n C 1 2 dL_1271 rfl rfl ?_
  refine lw_arg 1 C X ha hsb hL (by omega) dL_1272 dL_1273 dL_1274 dL_1275 dL_1276 ?_
  refine lw_arg 2 C X ha hsb hL (by omega) dL_1277 dL_1278 dL_1279 dL_1280 dL_1281 ?_
  refine lw_arg 3 C X ha hsb hL (by omega) dL_1282 dL_1283 dL_1284 dL_1285 dL_1286 ?_
  refine lw_callC [.int (iz (xs (i + 1)).toInt), .int (iz (xs (i + 2)).toInt), .int (iz (xs (i + 3)).toInt)] [] C K O hsb hw hz ck_L_132 (by show fr + 1 ≤ 2048 ∧ 8 + (7 + 11) + lo ≤ 84000; omega) (by show cells + mc ≤ 600000 ∧ slots + ms ≤ 7302250; omega) rfl (Nat.le_of_ble_eq_true rfl) (fun r9 w9 n9 z => z.2.n) dL_1287 (fun r9 w9 n9 z => ?_)
  obtain ⟨rfl, hS2⟩ := z
  refine hv_aload_n C 2 1 dL_1290 rfl rfl ?_
  refine lw_arg 1 C X ha hsb hL (by omega) dL_1291 dL_1292 dL_1293 dL_1294 dL_1295 ?_
  refine lw_arg 2 C X ha hsb hL (by omega) dL_1296 dL_1297 dL_1298 dL_1299 dL_1300 ?_
  refine lw_arg 3 C X ha hsb hL (by omega) dL_1301 dL_1302 dL_1303 dL_1304 dL_1305 ?_
  refine lw_callM [.int (iz (xs (i + 1)).toInt), .int (iz (xs (i + 2)).toInt), .int (iz (xs (i + 3)).toInt)] [.int (iz r)] C K hm ck_L_135 (by show fq + 1 ≤ 2048 ∧ 8 + (7 + 11) + lq ≤ 84000; omega) (by show cells + mc ≤ 600000 ∧ slots + ms ≤ 7302250; omega) rfl (Nat.le_of_ble_eq_true rfl) dL_1306 ?_
  refine lw_eq (x := iz r) (stk := []) 1614 C dL_1309 rfl ?_
  exact hv_widen (cells + 130) (slots + 7523) (by omega) (by omega) (k _ _ _ hS2)
theorem lc_28 (E : lwX p m c s args D ar b o a0 L xs) (hi : i + 8 ≤ L) (hf : cells + 130 ≤ 600000 ∧ slots + 7523 ≤ 7302250) (hS : LS9 ar b o.2.1 σ w n) (k : ∀ σ9 w9 n9, LS9 ar b o.2.1 σ9 w9 n9 → hvV p l e room_1 s m args below meth c 4 (FB9 b) (cells + 130) (slots + 7523) Q (lwI D ar b s.heap σ9 w9 n9) 1614 (lwL a0 b i) []) : hvV p l e room_1 s m args below meth c 4 (FB9 b) cells slots Q (lwI D ar b s.heap σ w n) 1314 (lwL a0 b i) [] := by
  obtain ⟨C, K, O, htx, X, ha, hsb, hL⟩ := E
  obtain ⟨fr, lo, mc, ms, fq, lq, r, σ9, hb9, hz, hm⟩ := lop_lost (l := l) (D := D) (B := BB9 b) ((xs (i + 1)).toInt) ((xs (i + 2)).toInt) (inI_toInt _) (inI_toInt _) hS
  obtain ⟨fs, hw⟩ := hS.b
  refine hv_aload_n C 1 2 dL_1314 rfl rfl ?_
  refine lw_arg 1 C X ha hsb hL (by omega) dL_1315 dL_1316 dL_1317 dL_1318 dL_1319 ?_
  refine lw_arg 2 C X ha hsb hL (by omega) dL_1320 dL_1321 dL_1322 dL_1323 dL_1324 ?_
  refine lw_callC [.int (iz (xs (i + 1)).toInt), .int (iz (xs (i + 2)).toInt)] [] C K O hsb hw hz ck_L_136 (by show fr + 1 ≤ 2048 ∧ 8 + (6 + 11) + lo ≤ 84000; omega) (by show cells + mc ≤ 600000 ∧ slots + ms ≤ 7302250; omega) rfl (Nat.le_of_ble_eq_true rfl) (fun r9 w9 n9 z => z.2.n) dL_1325 (fun r9 w9 n9 z => ?_)
  obtain ⟨rfl, hS2⟩ := z
  refine hv_aload_n C 2 1 dL_1328 rfl rfl ?_
  refine lw_arg 1 C X ha hsb hL (by omega) dL_1329 dL_1330 dL_1331 dL_1332 dL_1333 ?_
  refine lw_arg 2 C X ha hsb hL (by omega) dL_1334 dL_1335 dL_1336 dL_1337 dL_1338 ?_
  refine lw_callM [.int (iz (xs (i + 1)).toInt), .int (iz (xs (i + 2)).toInt)] [.int (iz r)] C K hm ck_L_139 (by show fq + 1 ≤ 2048 ∧ 8 + (5 + 11) + lq ≤ 84000; omega) (by show cells + mc ≤ 600000 ∧ slots + ms ≤ 7302250; omega) rfl (Nat.le_of_ble_eq_true rfl) dL_1339 ?_
  refine lw_eq (x := iz r) (stk := []) 1614 C dL_1342 rfl ?_
  exact hv_widen (cells + 130) (slots + 7523) (by omega) (by omega) (k _ _ _ hS2)
theorem lc_29 (E : lwX p m c s args D ar b o a0 L xs) (hi : i + 8 ≤ L) (hf : cells + 130 ≤ 600000 ∧ slots + 7523 ≤ 7302250) (hS : LS9 ar b o.2.1 σ w n) (k : ∀ σ9 w9 n9, LS9 ar b o.2.1 σ9 w9 n9 → hvV p l e room_1 s m args below meth c 4 (FB9 b) (cells + 130) (slots + 7523) Q (lwI D ar b s.heap σ9 w9 n9) 1614 (lwL a0 b i) []) : hvV p l e room_1 s m args below meth c 4 (FB9 b) cells slots Q (lwI D ar b s.heap σ w n) 1347 (lwL a0 b i) [] := by
  obtain ⟨C, K, O, htx, X, ha, hsb, hL⟩ := E
  obtain ⟨fr, lo, mc, ms, fq, lq, r, σ9, hb9, hz, hm⟩ := lop_calls (l := l) (D := D) (B := BB9 b) ((xs (i + 1)).toInt) ((xs (i + 2)).toInt) ((xs (i + 3)).toInt) (inI_toInt _) (inI_toInt _) (inI_toInt _) hS
  obtain ⟨fs, hw⟩ := hS.b
  refine hv_aload_n C 1 2 dL_1347 rfl rfl ?_
  refine lw_arg 1 C X ha hsb hL (by omega) dL_1348 dL_1349 dL_1350 dL_1351 dL_1352 ?_
  refine lw_arg 2 C X ha hsb hL (by omega) dL_1353 dL_1354 dL_1355 dL_1356 dL_1357 ?_
  refine lw_arg 3 C X ha hsb hL (by omega) dL_1358 dL_1359 dL_1360 dL_1361 dL_1362 ?_
  refine lw_callC [.int (iz (xs (i + 1)).toInt), .int (iz (xs (i + 2)).toInt), .int (iz (xs (i + 3)).toInt)] [] C K O hsb hw hz ck_L_140 (by show fr + 1 ≤ 2048 ∧ 8 + (5 + 11) + lo ≤ 84000; omega) (by show cells + mc ≤ 600000 ∧ slots + ms ≤ 7302250; omega) rfl (Nat.le_of_ble_eq_true rfl) (fun r9 w9 n9 z => z.2.n) dL_1363 (fun r9 w9 n9 z => ?_)
  obtain ⟨rfl, hS2⟩ := z
  refine hv_aload_n C 2 1 dL_1366 rfl rfl ?_
  refine lw_arg 1 C X ha hsb hL (by omega) dL_1367 dL_1368 dL_1369 dL_1370 dL_1371 ?_
  refine lw_arg 2 C X ha hsb hL (by omega) dL_1372 dL_1373 dL_1374 dL_1375 dL_1376 ?_
  refine lw_arg 3 C X ha hsb hL (by omega) dL_1377 dL_1378 dL_1379 dL_1380 dL_1381 ?_
  refine lw_callM [.int (iz (xs (i + 1)).toInt), .int (iz (xs (i + 2)).toInt), .int (iz (xs (i + 3)).toInt)] [.int (iz r)] C K hm ck_L_143 (by show fq + 1 ≤ 2048 ∧ 8 + (5 + 11) + lq ≤ 84000; omega) (by show cells + mc ≤ 600000 ∧ slots + ms ≤ 7302250; omega) rfl (Nat.le_of_ble_eq_true rfl) dL_1382 ?_
  refine lw_eq (x := iz r) (stk := []) 1614 C dL_1385 rfl ?_
  exact hv_widen (cells + 130) (slots + 7523) (by omega) (by omega) (k _ _ _ hS2)
theorem lc_30 (E : lwX p m c s args D ar b o a0 L xs) (hi : i + 8 ≤ L) (hf : cells + 130 ≤ 600000 ∧ slots + 7523 ≤ 7302250) (hS : LS9 ar b o.2.1 σ w n) (k : ∀ σ9 w9 n9, LS9 ar b o.2.1 σ9 w9 n9 → hvV p l e room_1 s m args below meth c 4 (FB9 b) (cells + 130) (slots + 7523) Q (lwI D ar b s.heap σ9 w9 n9) 1614 (lwL a0 b i) []) : hvV p l e room_1 s m args below meth c 4 (FB9 b) cells slots Q (lwI D ar b s.heap σ w n) 1390 (lwL a0 b i) [] := by
  obtain ⟨C, K, O, htx, X, ha, hsb, hL⟩ := E
  obtain ⟨fr, lo, mc, ms, fq, lq, r, σ9, hb9, hz, hm⟩ := lop_call (l := l) (D := D) (B := BB9 b) ((xs (i + 1)).toInt) ((xs (i + 2)).toInt) (inI_toInt _) (inI_toInt _) hS
  obtain ⟨fs, hw⟩ := hS.b
  refine hv_aload_n C 1 2 dL_1390 rfl rfl ?_
  refine lw_arg 1 C X ha hsb hL (by omega) dL_1391 dL_1392 dL_1393 dL_1394 dL_1395 ?_
  refine lw_arg 2 C X ha hsb hL (by omega) dL_1396 dL_1397 dL_1398 dL_1399 dL_1400 ?_
  refine lw_callC [.int (iz (xs (i + 1)).toInt), .int (iz (xs (i + 2)).toInt)] [] C K O hsb hw hz ck_L_144 (by show fr + 1 ≤ 2048 ∧ 8 + (3 + 11) + lo ≤ 84000; omega) (by show cells + mc ≤ 600000 ∧ slots + ms ≤ 7302250; omega) rfl (Nat.le_of_ble_eq_true rfl) (fun r9 w9 n9 z => z.2.n) dL_1401 (fun r9 w9 n9 z => ?_)
  obtain ⟨rfl, hS2⟩ := z
  refine hv_aload_n C 2 1 dL_1404 rfl rfl ?_
  refine lw_arg 1 C X ha hsb hL (by omega) dL_1405 dL_1406 dL_1407 dL_1408 dL_1409 ?_
  refine lw_arg 2 C X ha hsb hL (by omega) dL_1410 dL_1411 dL_1412 dL_1413 dL_1414 ?_
  refine lw_callM [.int (iz (xs (i + 1)).toInt), .int (iz (xs (i + 2)).toInt)] [.int (iz r)] C K hm ck_L_147 (by show fq + 1 ≤ 2048 ∧ 8 + (4 + 11) + lq ≤ 84000; omega) (by show cells + mc ≤ 600000 ∧ slots + ms ≤ 7302250; omega) rfl (Nat.le_of_ble_eq_true rfl) dL_1415 ?_
  refine lw_eq (x := iz r) (stk := []) 1614 C dL_1418 rfl ?_
  exact hv_widen (cells + 130) (slots + 7523) (by omega) (by omega) (k _ _ _ hS2)
theorem lc_31 (E : lwX p m c s args D ar b o a0 L xs) (hi : i + 8 ≤ L) (hf : cells + 130 ≤ 600000 ∧ slots + 7523 ≤ 7302250) (hS : LS9 ar b o.2.1 σ w n) (k : ∀ σ9 w9 n9, LS9 ar b o.2.1 σ9 w9 n9 → hvV p l e room_1 s m args below meth c 4 (FB9 b) (cells + 130) (slots + 7523) Q (lwI D ar b s.heap σ9 w9 n9) 1614 (lwL a0 b i) []) : hvV p l e room_1 s m args below meth c 4 (FB9 b) cells slots Q (lwI D ar b s.heap σ w n) 1423 (lwL a0 b i) [] := by
  obtain ⟨C, K, O, htx, X, ha, hsb, hL⟩ := E
  obtain ⟨fr, lo, mc, ms, fq, lq, r, σ9, hb9, hz, hm⟩ := lop_apart (l := l) (D := D) (B := BB9 b) ((xs (i + 1)).toInt) ((xs (i + 2)).toInt) (inI_toInt _) (inI_toInt _) hS
  obtain ⟨fs, hw⟩ := hS.b
  refine hv_aload_n C 1 2 dL_1423 rfl rfl ?_
  refine lw_arg 1 C X ha hsb hL (by omega) dL_1424 dL_1425 dL_1426 dL_1427 dL_1428 ?_
  refine lw_arg 2 C X ha hsb hL (by omega) dL_1429 dL_1430 dL_1431 dL_1432 dL_1433 ?_
  refine lw_callC [.int (iz (xs (i + 1)).toInt), .int (iz (xs (i + 2)).toInt)] [] C K O hsb hw hz ck_L_148 (by show fr + 1 ≤ 2048 ∧ 8 + (13 + 11) + lo ≤ 84000; omega) (by show cells + mc ≤ 600000 ∧ slots + ms ≤ 7302250; omega) rfl (Nat.le_of_ble_eq_true rfl) (fun r9 w9 n9 z => z.2.n) dL_1434 (fun r9 w9 n9 z => ?_)
  obtain ⟨rfl, hS2⟩ := z
  refine hv_aload_n C 2 1 dL_1437 rfl rfl ?_
  refine lw_arg 1 C X ha hsb hL (by omega) dL_1438 dL_1439 dL_1440 dL_1441 dL_1442 ?_
  refine lw_arg 2 C X ha hsb hL (by omega) dL_1443 dL_1444 dL_1445 dL_1446 dL_1447 ?_
  refine lw_callM [.int (iz (xs (i + 1)).toInt), .int (iz (xs (i + 2)).toInt)] [.int (iz r)] C K hm ck_L_151 (by show fq + 1 ≤ 2048 ∧ 8 + (13 + 11) + lq ≤ 84000; omega) (by show cells + mc ≤ 600000 ∧ slots + ms ≤ 7302250; omega) rfl (Nat.le_of_ble_eq_true rfl) dL_1448 ?_
  refine lw_eq (x := iz r) (stk := []) 1614 C dL_1451 rfl ?_
  exact hv_widen (cells + 130) (slots + 7523) (by omega) (by omega) (k _ _ _ hS2)
theorem lc_32 (E : lwX p m c s args D ar b o a0 L xs) (hi : i + 8 ≤ L) (hf : cells + 130 ≤ 600000 ∧ slots + 7523 ≤ 7302250) (hS : LS9 ar b o.2.1 σ w n) (k : ∀ σ9 w9 n9, LS9 ar b o.2.1 σ9 w9 n9 → hvV p l e room_1 s m args below meth c 4 (FB9 b) (cells + 130) (slots + 7523) Q (lwI D ar b s.heap σ9 w9 n9) 1614 (lwL a0 b i) []) : hvV p l e room_1 s m args below meth c 4 (FB9 b) cells slots Q (lwI D ar b s.heap σ w n) 1456 (lwL a0 b i) [] := by
  obtain ⟨C, K, O, htx, X, ha, hsb, hL⟩ := E
  obtain ⟨fr, lo, mc, ms, fq, lq, r, σ9, hb9, hz, hm⟩ := lop_piece (l := l) (D := D) (B := BB9 b) ((xs (i + 1)).toInt) (inI_toInt _) hS
  obtain ⟨fs, hw⟩ := hS.b
  refine hv_aload_n C 1 2 dL_1456 rfl rfl ?_
  refine lw_arg 1 C X ha hsb hL (by omega) dL_1457 dL_1458 dL_1459 dL_1460 dL_1461 ?_
  refine lw_callC [.int (iz (xs (i + 1)).toInt)] [] C K O hsb hw hz ck_L_152 (by show fr + 1 ≤ 2048 ∧ 8 + (2 + 11) + lo ≤ 84000; omega) (by show cells + mc ≤ 600000 ∧ slots + ms ≤ 7302250; omega) rfl (Nat.le_of_ble_eq_true rfl) (fun r9 w9 n9 z => z.2.n) dL_1462 (fun r9 w9 n9 z => ?_)
  obtain ⟨rfl, hS2⟩ := z
  refine hv_aload_n C 2 1 dL_1465 rfl rfl ?_
  refine lw_arg 1 C X ha hsb hL (by omega) dL_1466 dL_1467 dL_1468 dL_1469 dL_1470 ?_
  refine lw_callM [.int (iz (xs (i + 1)).toInt)] [.int (iz r)] C K hm ck_L_155 (by show fq + 1 ≤ 2048 ∧ 8 + (4 + 11) + lq ≤ 84000; omega) (by show cells + mc ≤ 600000 ∧ slots + ms ≤ 7302250; omega) rfl (Nat.le_of_ble_eq_true rfl) dL_1471 ?_
  refine lw_eq (x := iz r) (stk := []) 1614 C dL_1474 rfl ?_
  exact hv_widen (cells + 130) (slots + 7523) (by omega) (by omega) (k _ _ _ hS2)
theorem lc_33 (E : lwX p m c s args D ar b o a0 L xs) (hi : i + 8 ≤ L) (hf : cells + 130 ≤ 600000 ∧ slots + 7523 ≤ 7302250) (hS : LS9 ar b o.2.1 σ w n) (k : ∀ σ9 w9 n9, LS9 ar b o.2.1 σ9 w9 n9 → hvV p l e room_1 s m args below meth c 4 (FB9 b) (cells + 130) (slots + 7523) Q (lwI D ar b s.heap σ9 w9 n9) 1614 (lwL a0 b i) []) : hvV p l e room_1 s m args below meth c 4 (FB9 b) cells slots Q (lwI D ar b s.heap σ w n) 1479 (lwL a0 b i) [] := by
  obtain ⟨C, K, O, htx, X, ha, hsb, hL⟩ := E
  obtain ⟨fr, lo, mc, ms, fq, lq, r, σ9, hb9, hz, hm⟩ := lop_worth (l := l) (D := D) (B := BB9 b) ((xs (i + 1)).toInt) ((xs (i + 2)).toInt) ((xs (i + 3)).toInt) (inI_toInt _) (inI_toInt _) (inI_toInt _) hS
  obtain ⟨fs, hw⟩ := hS.b
  refine hv_aload_n C 1 2 dL_1479 rfl rfl ?_
  refine lw_arg 1 C X ha hsb hL (by omega) dL_1480 dL_1481 dL_1482 dL_1483 dL_1484 ?_
  refine lw_arg 2 C X ha hsb hL (by omega) dL_1485 dL_1486 dL_1487 dL_1488 dL_1489 ?_
  refine lw_arg 3 C X ha hsb hL (by omega) dL_1490 dL_1491 dL_1492 dL_1493 dL_1494 ?_
  refine lw_callC [.int (iz (xs (i + 1)).toInt), .int (iz (xs (i + 2)).toInt), .int (iz (xs (i + 3)).toInt)] [] C K O hsb hw hz ck_L_156 (by show fr + 1 ≤ 2048 ∧ 8 + (4 + 11) + lo ≤ 84000; omega) (by show cells + mc ≤ 600000 ∧ slots + ms ≤ 7302250; omega) rfl (Nat.le_of_ble_eq_true rfl) (fun r9 w9 n9 z => z.2.n) dL_1495 (fun r9 w9 n9 z => ?_)
  obtain ⟨rfl, hS2⟩ := z
  refine hv_aload_n C 2 1 dL_1498 rfl rfl ?_
  refine lw_arg 1 C X ha hsb hL (by omega) dL_1499 dL_1500 dL_1501 dL_1502 dL_1503 ?_
  refine lw_arg 2 C X ha hsb hL (by omega) dL_1504 dL_1505 dL_1506 dL_1507 dL_1508 ?_
  refine lw_arg 3 C X ha hsb hL (by omega) dL_1509 dL_1510 dL_1511 dL_1512 dL_1513 ?_
  refine lw_callM [.int (iz (xs (i + 1)).toInt), .int (iz (xs (i + 2)).toInt), .int (iz (xs (i + 3)).toInt)] [.int (iz r)] C K hm ck_L_159 (by show fq + 1 ≤ 2048 ∧ 8 + (4 + 11) + lq ≤ 84000; omega) (by show cells + mc ≤ 600000 ∧ slots + ms ≤ 7302250; omega) rfl (Nat.le_of_ble_eq_true rfl) dL_1514 ?_
  refine lw_eq (x := iz r) (stk := []) 1614 C dL_1517 rfl ?_
  exact hv_widen (cells + 130) (slots + 7523) (by omega) (by omega) (k _ _ _ hS2)
theorem lc_34 (E : lwX p m c s args D ar b o a0 L xs) (hi : i + 8 ≤ L) (hf : cells + 130 ≤ 600000 ∧ slots + 7523 ≤ 7302250) (hS : LS9 ar b o.2.1 σ w n) (k : ∀ σ9 w9 n9, LS9 ar b o.2.1 σ9 w9 n9 → hvV p l e room_1 s m args below meth c 4 (FB9 b) (cells + 130) (slots + 7523) Q (lwI D ar b s.heap σ9 w9 n9) 1614 (lwL a0 b i) []) : hvV p l e room_1 s m args below meth c 4 (FB9 b) cells slots Q (lwI D ar b s.heap σ w n) 1522 (lwL a0 b i) [] := by
  obtain ⟨C, K, O, htx, X, ha, hsb, hL⟩ := E
  obtain ⟨fr, lo, mc, ms, fq, lq, r, σ9, hb9, hz, hm⟩ := lop_plan (l := l) (D := D) (B := BB9 b) ((xs (i + 1)).toInt) (inI_toInt _) hS
  obtain ⟨fs, hw⟩ := hS.b
  refine hv_aload_n C 1 2 dL_1522 rfl rfl ?_
  refine lw_arg 1 C X ha hsb hL (by omega) dL_1523 dL_1524 dL_1525 dL_1526 dL_1527 ?_
  refine lw_callC [.int (iz (xs (i + 1)).toInt)] [] C K O hsb hw hz ck_L_160 (by show fr + 1 ≤ 2048 ∧ 8 + (2 + 11) + lo ≤ 84000; omega) (by show cells + mc ≤ 600000 ∧ slots + ms ≤ 7302250; omega) rfl (Nat.le_of_ble_eq_true rfl) (fun r9 w9 n9 z => z.2.n) dL_1528 (fun r9 w9 n9 z => ?_)
  obtain ⟨rfl, hS2⟩ := z
  refine hv_aload_n C 2 1 dL_1531 rfl rfl ?_
  refine lw_arg 1 C X ha hsb hL (by omega) dL_1532 dL_1533 dL_1534 dL_1535 dL_1536 ?_
  refine lw_callM [.int (iz (xs (i + 1)).toInt)] [.int (iz r)] C K hm ck_L_163 (by show fq + 1 ≤ 2048 ∧ 8 + (2 + 11) + lq ≤ 84000; omega) (by show cells + mc ≤ 600000 ∧ slots + ms ≤ 7302250; omega) rfl (Nat.le_of_ble_eq_true rfl) dL_1537 ?_
  refine lw_eq (x := iz r) (stk := []) 1614 C dL_1540 rfl ?_
  exact hv_widen (cells + 130) (slots + 7523) (by omega) (by omega) (k _ _ _ hS2)
theorem lc_35 (E : lwX p m c s args D ar b o a0 L xs) (hi : i + 8 ≤ L) (hf : cells + 130 ≤ 600000 ∧ slots + 7523 ≤ 7302250) (hS : LS9 ar b o.2.1 σ w n) (k : ∀ σ9 w9 n9, LS9 ar b o.2.1 σ9 w9 n9 → hvV p l e room_1 s m args below meth c 4 (FB9 b) (cells + 130) (slots + 7523) Q (lwI D ar b s.heap σ9 w9 n9) 1614 (lwL a0 b i) []) : hvV p l e room_1 s m args below meth c 4 (FB9 b) cells slots Q (lwI D ar b s.heap σ w n) 1545 (lwL a0 b i) [] := by
  obtain ⟨C, K, O, htx, X, ha, hsb, hL⟩ := E
  obtain ⟨fr, lo, mc, ms, fq, lq, r, σ9, hb9, hz, hm⟩ := lop_count (l := l) (D := D) (B := BB9 b) ((xs (i + 1)).toInt) (inI_toInt _) hS
  obtain ⟨fs, hw⟩ := hS.b
  refine hv_aload_n C 1 2 dL_1545 rfl rfl ?_
  refine lw_arg 1 C X ha hsb hL (by omega) dL_1546 dL_1547 dL_1548 dL_1549 dL_1550 ?_
  refine lw_callC [.int (iz (xs (i + 1)).toInt)] [] C K O hsb hw hz ck_L_164 (by show fr + 1 ≤ 2048 ∧ 8 + (2 + 11) + lo ≤ 84000; omega) (by show cells + mc ≤ 600000 ∧ slots + ms ≤ 7302250; omega) rfl (Nat.le_of_ble_eq_true rfl) (fun r9 w9 n9 z => z.2.n) dL_1551 (fun r9 w9 n9 z => ?_)
  obtain ⟨rfl, hS2⟩ := z
  refine hv_aload_n C 2 1 dL_1554 rfl rfl ?_
  refine lw_arg 1 C X ha hsb hL (by omega) dL_1555 dL_1556 dL_1557 dL_1558 dL_1559 ?_
  refine lw_callM [.int (iz (xs (i + 1)).toInt)] [.int (iz r)] C K hm ck_L_167 (by show fq + 1 ≤ 2048 ∧ 8 + (2 + 11) + lq ≤ 84000; omega) (by show cells + mc ≤ 600000 ∧ slots + ms ≤ 7302250; omega) rfl (Nat.le_of_ble_eq_true rfl) dL_1560 ?_
  refine lw_eq (x := iz r) (stk := []) 1614 C dL_1563 rfl ?_
  exact hv_widen (cells + 130) (slots + 7523) (by omega) (by omega) (k _ _ _ hS2)
theorem lc_36 (E : lwX p m c s args D ar b o a0 L xs) (hi : i + 8 ≤ L) (hf : cells + 130 ≤ 600000 ∧ slots + 7523 ≤ 7302250) (hS : LS9 ar b o.2.1 σ w n) (k : ∀ σ9 w9 n9, LS9 ar b o.2.1 σ9 w9 n9 → hvV p l e room_1 s m args below meth c 4 (FB9 b) (cells + 130) (slots + 7523) Q (lwI D ar b s.heap σ9 w9 n9) 1614 (lwL a0 b i) []) : hvV p l e room_1 s m args below meth c 4 (FB9 b) cells slots Q (lwI D ar b s.heap σ w n) 1568 (lwL a0 b i) [] := by
  obtain ⟨C, K, O, htx, X, ha, hsb, hL⟩ := E
  obtain ⟨fr, lo, mc, ms, fq, lq, r, σ9, hb9, hz, hm⟩ := lop_image2 (l := l) (D := D) (B := BB9 b) ((xs (i + 1)).toInt) (inI_toInt _) bb_b hS
  obtain ⟨fs, hw⟩ := hS.b
  refine hv_aload_n C 1 2 dL_1568 rfl rfl ?_
  refine lw_arg 1 C X ha hsb hL (by omega) dL_1569 dL_1570 dL_1571 dL_1572 dL_1573 ?_
  refine lw_callC [.int (iz (xs (i + 1)).toInt)] [] C K O hsb hw hz ck_L_168 (by show fr + 1 ≤ 2048 ∧ 8 + (2 + 11) + lo ≤ 84000; omega) (by show cells + mc ≤ 600000 ∧ slots + ms ≤ 7302250; omega) rfl (Nat.le_of_ble_eq_true rfl) (fun r9 w9 n9 z => z.2.n) dL_1574 (fun r9 w9 n9 z => ?_)
  obtain ⟨rfl, hS2⟩ := z
  refine hv_aload_n C 2 1 dL_1577 rfl rfl ?_
  refine lw_arg 1 C X ha hsb hL (by omega) dL_1578 dL_1579 dL_1580 dL_1581 dL_1582 ?_
  refine lw_callM [.int (iz (xs (i + 1)).toInt)] [.int (iz r)] C K hm ck_L_171 (by show fq + 1 ≤ 2048 ∧ 8 + (3 + 11) + lq ≤ 84000; omega) (by show cells + mc ≤ 600000 ∧ slots + ms ≤ 7302250; omega) rfl (Nat.le_of_ble_eq_true rfl) dL_1583 ?_
  refine lw_eq (x := iz r) (stk := []) 1614 C dL_1586 rfl ?_
  exact hv_widen (cells + 130) (slots + 7523) (by omega) (by omega) (k _ _ _ hS2)
theorem lc_37 (E : lwX p m c s args D ar b o a0 L xs) (hi : i + 8 ≤ L) (hf : cells + 130 ≤ 600000 ∧ slots + 7523 ≤ 7302250) (hS : LS9 ar b o.2.1 σ w n) (k : ∀ σ9 w9 n9, LS9 ar b o.2.1 σ9 w9 n9 → hvV p l e room_1 s m args below meth c 4 (FB9 b) (cells + 130) (slots + 7523) Q (lwI D ar b s.heap σ9 w9 n9) 1614 (lwL a0 b i) []) : hvV p l e room_1 s m args below meth c 4 (FB9 b) cells slots Q (lwI D ar b s.heap σ w n) 1591 (lwL a0 b i) [] := by
  obtain ⟨C, K, O, htx, X, ha, hsb, hL⟩ := E
  obtain ⟨fr, lo, mc, ms, fq, lq, r, σ9, hb9, hz, hm⟩ := lop_again (l := l) (D := D) (B := BB9 b) ((xs (i + 1)).toInt) (inI_toInt _) bb_b hS
  obtain ⟨fs, hw⟩ := hS.b
  refine hv_aload_n C 1 2 dL_1591 rfl rfl ?_
  refine lw_arg 1 C X ha hsb hL (by omega) dL_1592 dL_1593 dL_1594 dL_1595 dL_1596 ?_
  refine lw_callC [.int (iz (xs (i + 1)).toInt)] [] C K O hsb hw hz ck_L_172 (by show fr + 1 ≤ 2048 ∧ 8 + (2 + 11) + lo ≤ 84000; omega) (by show cells + mc ≤ 600000 ∧ slots + ms ≤ 7302250; omega) rfl (Nat.le_of_ble_eq_true rfl) (fun r9 w9 n9 z => z.2.n) dL_1597 (fun r9 w9 n9 z => ?_)
  obtain ⟨rfl, hS2⟩ := z
  refine hv_aload_n C 2 1 dL_1600 rfl rfl ?_
  refine lw_arg 1 C X ha hsb hL (by omega) dL_1601 dL_1602 dL_1603 dL_1604 dL_1605 ?_
  refine lw_callM [.int (iz (xs (i + 1)).toInt)] [.int (iz r)] C K hm ck_L_175 (by show fq + 1 ≤ 2048 ∧ 8 + (3 + 11) + lq ≤ 84000; omega) (by show cells + mc ≤ 600000 ∧ slots + ms ≤ 7302250; omega) rfl (Nat.le_of_ble_eq_true rfl) dL_1606 ?_
  refine lw_eq (x := iz r) (stk := []) 1614 C dL_1609 rfl ?_
  exact hv_widen (cells + 130) (slots + 7523) (by omega) (by omega) (k _ _ _ hS2)
end LC
