/-! THE LAW: its cases, 2. -/
section
variable {G : GT} {p : Program} {e : Env} {s : State} {m : MethodId} {below : List Frame} {meth : Method} {c : Code} {b L : Nat} {xs : Nat → Int32} {bx bm : Nat} {I K : MI} {R : MR} {M N : MI}
theorem k_met {n : Nat} (hC : LC G p s m meth c b L xs bx bm) (hn : n + 5 < L ∧ L ≤ 3072) (cr : CR I K R M N) (next : ∀ I' K' R' M' N', CR I' K' R' M' N' → LW G p e s m below meth c b bx bm (nI n) 1463 [] I' K' R' M' N') : LW G p e s m below meth c b bx bm (nI n) 953 [] I K R M N := by
  obtain ⟨h, h', co, cc⟩ := cr
  obtain ⟨jH, jE, jL, jR, jT⟩ := id co.2.2.2.2.1
  refine l_x hC dL_law_953 ?_
  refine l_arg (k := 1) hC dL_law_954 dL_law_955 dL_law_956 dL_law_957 dL_law_958 (by decide) rfl (by omega) ?_
  refine l_arg (k := 2) hC dL_law_959 dL_law_960 dL_law_961 dL_law_962 dL_law_963 (by decide) rfl (by omega) ?_
  refine l_callX (as := [mi (sv xs (n + 1)), mi (sv xs (n + 2))]) hC dL_law_964 lvL_112 rfl rfl ⟨rfl, rfl⟩ (s_X7_met co cc (sv_r _ _) (sv_r _ _)) rfl rfl (Nat.le_of_ble_eq_true rfl) (fun v I1 K1 R1 q => ?_)
  obtain ⟨z, rfl, e1, co1, cc1⟩ := q
  refine l_m hC dL_law_967 ?_
  refine l_arg (k := 1) hC dL_law_968 dL_law_969 dL_law_970 dL_law_971 dL_law_972 (by decide) rfl (by omega) ?_
  refine l_arg (k := 2) hC dL_law_973 dL_law_974 dL_law_975 dL_law_976 dL_law_977 (by decide) rfl (by omega) ?_
  refine l_callM (as := [mi (sv xs (n + 1)), mi (sv xs (n + 2))]) hC dL_law_978 lvL_115 rfl rfl ⟨rfl, rfl⟩ (s_X8_met jH jE (sv_r _ _) (sv_r _ _)) rfl rfl (Nat.le_of_ble_eq_true rfl) (fun v M1 N1 S1 q => ?_)
  obtain ⟨z2, rfl, e2, pe, lf, hR⟩ := q
  refine ⟨hR, ?_⟩
  show LW G p e s m below meth c b bx bm _ 981 [.int (Int32.ofInt z2), .int (Int32.ofInt z)] _ _ _ _ _
  refine l_eqI (tgt := 1463) hC dL_law_981 (by decide) (by rw [e1, e2]) ?_
  exact next _ _ _ _ _ (CR.pe ⟨h, h', co1, cc1⟩ pe (fun j hj => lf 0 j (by decide) (by decide)))
theorem k_still {n : Nat} (hC : LC G p s m meth c b L xs bx bm) (hn : n + 5 < L ∧ L ≤ 3072) (cr : CR I K R M N) (next : ∀ I' K' R' M' N', CR I' K' R' M' N' → LW G p e s m below meth c b bx bm (nI n) 1463 [] I' K' R' M' N') : LW G p e s m below meth c b bx bm (nI n) 986 [] I K R M N := by
  obtain ⟨h, h', co, cc⟩ := cr
  obtain ⟨jH, jE, jL, jR, jT⟩ := id co.2.2.2.2.1
  refine l_x hC dL_law_986 ?_
  refine l_arg (k := 1) hC dL_law_987 dL_law_988 dL_law_989 dL_law_990 dL_law_991 (by decide) rfl (by omega) ?_
  refine l_arg (k := 2) hC dL_law_992 dL_law_993 dL_law_994 dL_law_995 dL_law_996 (by decide) rfl (by omega) ?_
  refine l_callX (as := [mi (sv xs (n + 1)), mi (sv xs (n + 2))]) hC dL_law_997 lvL_116 rfl rfl ⟨rfl, rfl⟩ (s_X7_still co cc (sv_r _ _) (sv_r _ _)) rfl rfl (Nat.le_of_ble_eq_true rfl) (fun v I1 K1 R1 q => ?_)
  obtain ⟨z, rfl, e1, co1, cc1⟩ := q
  refine l_m hC dL_law_1000 ?_
  refine l_arg (k := 1) hC dL_law_1001 dL_law_1002 dL_law_1003 dL_law_1004 dL_law_1005 (by decide) rfl (by omega) ?_
  refine l_arg (k := 2) hC dL_law_1006 dL_law_1007 dL_law_1008 dL_law_1009 dL_law_1010 (by decide) rfl (by omega) ?_
  refine l_callM (as := [mi (sv xs (n + 1)), mi (sv xs (n + 2))]) hC dL_law_1011 lvL_119 rfl rfl ⟨rfl, rfl⟩ (s_X8_still jH jE (sv_r _ _) (sv_r _ _)) rfl rfl (Nat.le_of_ble_eq_true rfl) (fun v M1 N1 S1 q => ?_)
  obtain ⟨z2, rfl, e2, pe, lf, hR⟩ := q
  refine ⟨hR, ?_⟩
  show LW G p e s m below meth c b bx bm _ 1014 [.int (Int32.ofInt z2), .int (Int32.ofInt z)] _ _ _ _ _
  refine l_eqI (tgt := 1463) hC dL_law_1014 (by decide) (by rw [e1, e2]) ?_
  exact next _ _ _ _ _ (CR.pe ⟨h, h', co1, cc1⟩ pe (fun j hj => lf 0 j (by decide) (by decide)))
theorem k_judge {n : Nat} (hC : LC G p s m meth c b L xs bx bm) (hn : n + 5 < L ∧ L ≤ 3072) (cr : CR I K R M N) (next : ∀ I' K' R' M' N', CR I' K' R' M' N' → LW G p e s m below meth c b bx bm (nI n) 1463 [] I' K' R' M' N') : LW G p e s m below meth c b bx bm (nI n) 1019 [] I K R M N := by
  obtain ⟨h, h', co, cc⟩ := cr
  obtain ⟨jH, jE, jL, jR, jT⟩ := id co.2.2.2.2.1
  refine l_x hC dL_law_1019 ?_
  refine l_arg (k := 1) hC dL_law_1020 dL_law_1021 dL_law_1022 dL_law_1023 dL_law_1024 (by decide) rfl (by omega) ?_
  refine l_arg (k := 2) hC dL_law_1025 dL_law_1026 dL_law_1027 dL_law_1028 dL_law_1029 (by decide) rfl (by omega) ?_
  refine l_callX (as := [mi (sv xs (n + 1)), mi (sv xs (n + 2))]) hC dL_law_1030 lvL_120 rfl rfl ⟨rfl, rfl⟩ (s_X7_judge co cc (sv_r _ _) (sv_r _ _)) rfl rfl (Nat.le_of_ble_eq_true rfl) (fun v I1 K1 R1 q => ?_)
  obtain ⟨z, rfl, e1, co1, cc1⟩ := q
  refine l_m hC dL_law_1033 ?_
  refine l_arg (k := 1) hC dL_law_1034 dL_law_1035 dL_law_1036 dL_law_1037 dL_law_1038 (by decide) rfl (by omega) ?_
  refine l_arg (k := 2) hC dL_law_1039 dL_law_1040 dL_law_1041 dL_law_1042 dL_law_1043 (by decide) rfl (by omega) ?_
  refine l_callM (as := [mi (sv xs (n + 1)), mi (sv xs (n + 2))]) hC dL_law_1044 lvL_123 rfl rfl ⟨rfl, rfl⟩ (s_X8_judge jH jE jR (sv_r _ _) (sv_r _ _)) rfl rfl (Nat.le_of_ble_eq_true rfl) (fun v M1 N1 S1 q => ?_)
  obtain ⟨z2, rfl, e2, pe, lf, hR⟩ := q
  refine ⟨hR, ?_⟩
  show LW G p e s m below meth c b bx bm _ 1047 [.int (Int32.ofInt z2), .int (Int32.ofInt z)] _ _ _ _ _
  refine l_eqI (tgt := 1463) hC dL_law_1047 (by decide) (by rw [e1, e2]) ?_
  exact next _ _ _ _ _ (CR.pe ⟨h, h', co1, cc1⟩ pe (fun j hj => lf 0 j (by decide) (by decide)))
theorem k_way {n : Nat} (hC : LC G p s m meth c b L xs bx bm) (hn : n + 5 < L ∧ L ≤ 3072) (cr : CR I K R M N) (next : ∀ I' K' R' M' N', CR I' K' R' M' N' → LW G p e s m below meth c b bx bm (nI n) 1463 [] I' K' R' M' N') : LW G p e s m below meth c b bx bm (nI n) 1052 [] I K R M N := by
  obtain ⟨h, h', co, cc⟩ := cr
  obtain ⟨jH, jE, jL, jR, jT⟩ := id co.2.2.2.2.1
  refine l_x hC dL_law_1052 ?_
  refine l_arg (k := 1) hC dL_law_1053 dL_law_1054 dL_law_1055 dL_law_1056 dL_law_1057 (by decide) rfl (by omega) ?_
  refine l_arg (k := 2) hC dL_law_1058 dL_law_1059 dL_law_1060 dL_law_1061 dL_law_1062 (by decide) rfl (by omega) ?_
  refine l_callX (as := [mi (sv xs (n + 1)), mi (sv xs (n + 2))]) hC dL_law_1063 lvL_124 rfl rfl ⟨rfl, rfl⟩ (s_X7_way co cc (sv_r _ _) (sv_r _ _)) rfl rfl (Nat.le_of_ble_eq_true rfl) (fun v I1 K1 R1 q => ?_)
  obtain ⟨z, rfl, e1, co1, cc1⟩ := q
  refine l_m hC dL_law_1066 ?_
  refine l_arg (k := 1) hC dL_law_1067 dL_law_1068 dL_law_1069 dL_law_1070 dL_law_1071 (by decide) rfl (by omega) ?_
  refine l_arg (k := 2) hC dL_law_1072 dL_law_1073 dL_law_1074 dL_law_1075 dL_law_1076 (by decide) rfl (by omega) ?_
  refine l_callM (as := [mi (sv xs (n + 1)), mi (sv xs (n + 2))]) hC dL_law_1077 lvL_127 rfl rfl ⟨rfl, rfl⟩ (s_X8_way jH jE (sv_r _ _) (sv_r _ _)) rfl rfl (Nat.le_of_ble_eq_true rfl) (fun v M1 N1 S1 q => ?_)
  obtain ⟨z2, rfl, e2, pe, lf, hR⟩ := q
  refine ⟨hR, ?_⟩
  show LW G p e s m below meth c b bx bm _ 1080 [.int (Int32.ofInt z2), .int (Int32.ofInt z)] _ _ _ _ _
  refine l_eqI (tgt := 1463) hC dL_law_1080 (by decide) (by rw [e1, e2]) ?_
  exact next _ _ _ _ _ (CR.pe ⟨h, h', co1, cc1⟩ pe (fun j hj => lf 0 j (by decide) (by decide)))
theorem k_whose {n : Nat} (hC : LC G p s m meth c b L xs bx bm) (hn : n + 5 < L ∧ L ≤ 3072) (cr : CR I K R M N) (next : ∀ I' K' R' M' N', CR I' K' R' M' N' → LW G p e s m below meth c b bx bm (nI n) 1463 [] I' K' R' M' N') : LW G p e s m below meth c b bx bm (nI n) 1085 [] I K R M N := by
  obtain ⟨h, h', co, cc⟩ := cr
  obtain ⟨jH, jE, jL, jR, jT⟩ := id co.2.2.2.2.1
  refine l_x hC dL_law_1085 ?_
  refine l_arg (k := 1) hC dL_law_1086 dL_law_1087 dL_law_1088 dL_law_1089 dL_law_1090 (by decide) rfl (by omega) ?_
  refine l_callX (as := [mi (sv xs (n + 1))]) hC dL_law_1091 lvL_128 rfl rfl ⟨rfl, rfl⟩ (s_X7_whose co cc (sv_r _ _)) rfl rfl (Nat.le_of_ble_eq_true rfl) (fun v I1 K1 R1 q => ?_)
  obtain ⟨z, rfl, e1, co1, cc1⟩ := q
  refine l_m hC dL_law_1094 ?_
  refine l_arg (k := 1) hC dL_law_1095 dL_law_1096 dL_law_1097 dL_law_1098 dL_law_1099 (by decide) rfl (by omega) ?_
  refine l_callM (as := [mi (sv xs (n + 1))]) hC dL_law_1100 lvL_131 rfl rfl ⟨rfl, rfl⟩ (s_X8_whose jH jE jL (sv_r _ _)) rfl rfl (Nat.le_of_ble_eq_true rfl) (fun v M1 N1 S1 q => ?_)
  obtain ⟨z2, rfl, e2, pe, lf, hR⟩ := q
  refine ⟨hR, ?_⟩
  show LW G p e s m below meth c b bx bm _ 1103 [.int (Int32.ofInt z2), .int (Int32.ofInt z)] _ _ _ _ _
  refine l_eqI (tgt := 1463) hC dL_law_1103 (by decide) (by rw [e1, e2]) ?_
  exact next _ _ _ _ _ (CR.pe ⟨h, h', co1, cc1⟩ pe (fun j hj => lf 0 j (by decide) (by decide)))
theorem k_same {n : Nat} (hC : LC G p s m meth c b L xs bx bm) (hn : n + 5 < L ∧ L ≤ 3072) (cr : CR I K R M N) (next : ∀ I' K' R' M' N', CR I' K' R' M' N' → LW G p e s m below meth c b bx bm (nI n) 1463 [] I' K' R' M' N') : LW G p e s m below meth c b bx bm (nI n) 1108 [] I K R M N := by
  obtain ⟨h, h', co, cc⟩ := cr
  obtain ⟨jH, jE, jL, jR, jT⟩ := id co.2.2.2.2.1
  refine l_x hC dL_law_1108 ?_
  refine l_arg (k := 1) hC dL_law_1109 dL_law_1110 dL_law_1111 dL_law_1112 dL_law_1113 (by decide) rfl (by omega) ?_
  refine l_callX (as := [mi (sv xs (n + 1))]) hC dL_law_1114 lvL_132 rfl rfl ⟨rfl, rfl⟩ (s_X7_same co cc (sv_r _ _)) rfl rfl (Nat.le_of_ble_eq_true rfl) (fun v I1 K1 R1 q => ?_)
  obtain ⟨z, rfl, e1, co1, cc1⟩ := q
  refine l_m hC dL_law_1117 ?_
  refine l_arg (k := 1) hC dL_law_1118 dL_law_1119 dL_law_1120 dL_law_1121 dL_law_1122 (by decide) rfl (by omega) ?_
  refine l_callM (as := [mi (sv xs (n + 1))]) hC dL_law_1123 lvL_135 rfl rfl ⟨rfl, rfl⟩ (s_X8_same jH jE jL (sv_r _ _)) rfl rfl (Nat.le_of_ble_eq_true rfl) (fun v M1 N1 S1 q => ?_)
  obtain ⟨z2, rfl, e2, pe, lf, hR⟩ := q
  refine ⟨hR, ?_⟩
  show LW G p e s m below meth c b bx bm _ 1126 [.int (Int32.ofInt z2), .int (Int32.ofInt z)] _ _ _ _ _
  refine l_eqI (tgt := 1463) hC dL_law_1126 (by decide) (by rw [e1, e2]) ?_
  exact next _ _ _ _ _ (CR.pe ⟨h, h', co1, cc1⟩ pe (fun j hj => lf 0 j (by decide) (by decide)))
theorem k_passes {n : Nat} (hC : LC G p s m meth c b L xs bx bm) (hn : n + 5 < L ∧ L ≤ 3072) (cr : CR I K R M N) (next : ∀ I' K' R' M' N', CR I' K' R' M' N' → LW G p e s m below meth c b bx bm (nI n) 1463 [] I' K' R' M' N') : LW G p e s m below meth c b bx bm (nI n) 1131 [] I K R M N := by
  obtain ⟨h, h', co, cc⟩ := cr
  obtain ⟨jH, jE, jL, jR, jT⟩ := id co.2.2.2.2.1
  refine l_x hC dL_law_1131 ?_
  refine l_arg (k := 1) hC dL_law_1132 dL_law_1133 dL_law_1134 dL_law_1135 dL_law_1136 (by decide) rfl (by omega) ?_
  refine l_callX (as := [mi (sv xs (n + 1))]) hC dL_law_1137 lvL_136 rfl rfl ⟨rfl, rfl⟩ (s_X7_passes co cc (sv_r _ _)) rfl rfl (Nat.le_of_ble_eq_true rfl) (fun v I1 K1 R1 q => ?_)
  obtain ⟨z, rfl, e1, co1, cc1⟩ := q
  refine l_m hC dL_law_1140 ?_
  refine l_arg (k := 1) hC dL_law_1141 dL_law_1142 dL_law_1143 dL_law_1144 dL_law_1145 (by decide) rfl (by omega) ?_
  refine l_callM (as := [mi (sv xs (n + 1))]) hC dL_law_1146 lvL_139 rfl rfl ⟨rfl, rfl⟩ (s_X8_passes jH jE (sv_r _ _)) rfl rfl (Nat.le_of_ble_eq_true rfl) (fun v M1 N1 S1 q => ?_)
  obtain ⟨z2, rfl, e2, pe, lf, hR⟩ := q
  refine ⟨hR, ?_⟩
  show LW G p e s m below meth c b bx bm _ 1149 [.int (Int32.ofInt z2), .int (Int32.ofInt z)] _ _ _ _ _
  refine l_eqI (tgt := 1463) hC dL_law_1149 (by decide) (by rw [e1, e2]) ?_
  exact next _ _ _ _ _ (CR.pe ⟨h, h', co1, cc1⟩ pe (fun j hj => lf 0 j (by decide) (by decide)))
theorem k_third {n : Nat} (hC : LC G p s m meth c b L xs bx bm) (hn : n + 5 < L ∧ L ≤ 3072) (cr : CR I K R M N) (next : ∀ I' K' R' M' N', CR I' K' R' M' N' → LW G p e s m below meth c b bx bm (nI n) 1463 [] I' K' R' M' N') : LW G p e s m below meth c b bx bm (nI n) 1154 [] I K R M N := by
  obtain ⟨h, h', co, cc⟩ := cr
  obtain ⟨jH, jE, jL, jR, jT⟩ := id co.2.2.2.2.1
  refine l_x hC dL_law_1154 ?_
  refine l_callX (as := []) hC dL_law_1155 lvL_140 rfl rfl ⟨rfl, rfl⟩ (s_X7_third co cc) rfl rfl (Nat.le_of_ble_eq_true rfl) (fun v I1 K1 R1 q => ?_)
  obtain ⟨z, rfl, e1, co1, cc1⟩ := q
  refine l_m hC dL_law_1158 ?_
  refine l_callM (as := []) hC dL_law_1159 lvL_143 rfl rfl ⟨rfl, rfl⟩ (s_X8_third jH jE) rfl rfl (Nat.le_of_ble_eq_true rfl) (fun v M1 N1 S1 q => ?_)
  obtain ⟨z2, rfl, e2, pe, lf, hR⟩ := q
  refine ⟨hR, ?_⟩
  show LW G p e s m below meth c b bx bm _ 1162 [.int (Int32.ofInt z2), .int (Int32.ofInt z)] _ _ _ _ _
  refine l_eqI (tgt := 1463) hC dL_law_1162 (by decide) (by rw [e1, e2]) ?_
  exact next _ _ _ _ _ (CR.pe ⟨h, h', co1, cc1⟩ pe (fun j hj => lf 0 j (by decide) (by decide)))
theorem k_chance {n : Nat} (hC : LC G p s m meth c b L xs bx bm) (hn : n + 5 < L ∧ L ≤ 3072) (cr : CR I K R M N) (next : ∀ I' K' R' M' N', CR I' K' R' M' N' → LW G p e s m below meth c b bx bm (nI n) 1463 [] I' K' R' M' N') : LW G p e s m below meth c b bx bm (nI n) 1167 [] I K R M N := by
  obtain ⟨h, h', co, cc⟩ := cr
  obtain ⟨jH, jE, jL, jR, jT⟩ := id co.2.2.2.2.1
  refine l_x hC dL_law_1167 ?_
  refine l_arg (k := 1) hC dL_law_1168 dL_law_1169 dL_law_1170 dL_law_1171 dL_law_1172 (by decide) rfl (by omega) ?_
  refine l_arg (k := 2) hC dL_law_1173 dL_law_1174 dL_law_1175 dL_law_1176 dL_law_1177 (by decide) rfl (by omega) ?_
  refine l_callX (as := [mi (sv xs (n + 1)), mi (sv xs (n + 2))]) hC dL_law_1178 lvL_144 rfl rfl ⟨rfl, rfl⟩ (s_X7_chance co cc (sv_r _ _) (sv_r _ _)) rfl rfl (Nat.le_of_ble_eq_true rfl) (fun v I1 K1 R1 q => ?_)
  obtain ⟨z, rfl, e1, co1, cc1⟩ := q
  refine l_m hC dL_law_1181 ?_
  refine l_arg (k := 1) hC dL_law_1182 dL_law_1183 dL_law_1184 dL_law_1185 dL_law_1186 (by decide) rfl (by omega) ?_
  refine l_arg (k := 2) hC dL_law_1187 dL_law_1188 dL_law_1189 dL_law_1190 dL_law_1191 (by decide) rfl (by omega) ?_
  refine l_callM (as := [mi (sv xs (n + 1)), mi (sv xs (n + 2))]) hC dL_law_1192 lvL_147 rfl rfl ⟨rfl, rfl⟩ (s_X8_chance jH jE (fun q => cnt_ok (KA_H jH) (KA_S jH jE) ((okA_eq jE jL).mp q)) (sv_r _ _) (sv_r _ _)) rfl rfl (Nat.le_of_ble_eq_true rfl) (fun v M1 N1 S1 q => ?_)
  obtain ⟨z2, rfl, e2, pe, pl, hR⟩ := q
  refine ⟨hR, ?_⟩
  show LW G p e s m below meth c b bx bm _ 1195 [.int (Int32.ofInt z2), .int (Int32.ofInt z)] _ _ _ _ _
  refine l_eqI (tgt := 1463) hC dL_law_1195 (by decide) (by rw [e1, e2]) ?_
  exact next _ _ _ _ _ (CR.pe ⟨h, h', co1, cc1⟩ pe pl)
theorem k_likely {n : Nat} (hC : LC G p s m meth c b L xs bx bm) (hn : n + 5 < L ∧ L ≤ 3072) (cr : CR I K R M N) (next : ∀ I' K' R' M' N', CR I' K' R' M' N' → LW G p e s m below meth c b bx bm (nI n) 1463 [] I' K' R' M' N') : LW G p e s m below meth c b bx bm (nI n) 1200 [] I K R M N := by
  obtain ⟨h, h', co, cc⟩ := cr
  obtain ⟨jH, jE, jL, jR, jT⟩ := id co.2.2.2.2.1
  refine l_x hC dL_law_1200 ?_
  refine l_arg (k := 1) hC dL_law_1201 dL_law_1202 dL_law_1203 dL_law_1204 dL_law_1205 (by decide) rfl (by omega) ?_
  refine l_arg (k := 2) hC dL_law_1206 dL_law_1207 dL_law_1208 dL_law_1209 dL_law_1210 (by decide) rfl (by omega) ?_
  refine l_callX (as := [mi (sv xs (n + 1)), mi (sv xs (n + 2))]) hC dL_law_1211 lvL_148 rfl rfl ⟨rfl, rfl⟩ (s_X7_likely co cc (sv_r _ _) (sv_r _ _)) rfl rfl (Nat.le_of_ble_eq_true rfl) (fun v I1 K1 R1 q => ?_)
  obtain ⟨z, rfl, e1, co1, cc1⟩ := q
  refine l_m hC dL_law_1214 ?_
  refine l_arg (k := 1) hC dL_law_1215 dL_law_1216 dL_law_1217 dL_law_1218 dL_law_1219 (by decide) rfl (by omega) ?_
  refine l_arg (k := 2) hC dL_law_1220 dL_law_1221 dL_law_1222 dL_law_1223 dL_law_1224 (by decide) rfl (by omega) ?_
  refine l_callM (as := [mi (sv xs (n + 1)), mi (sv xs (n + 2))]) hC dL_law_1225 lvL_151 rfl rfl ⟨rfl, rfl⟩ (s_X8_likely jH jE (fun q => cnt_ok (KA_H jH) (KA_S jH jE) ((okA_eq jE jL).mp q)) (sv_r _ _) (sv_r _ _)) rfl rfl (Nat.le_of_ble_eq_true rfl) (fun v M1 N1 S1 q => ?_)
  obtain ⟨z2, rfl, e2, pe, pl, hR⟩ := q
  refine ⟨hR, ?_⟩
  show LW G p e s m below meth c b bx bm _ 1228 [.int (Int32.ofInt z2), .int (Int32.ofInt z)] _ _ _ _ _
  refine l_eqI (tgt := 1463) hC dL_law_1228 (by decide) (by rw [e1, e2]) ?_
  exact next _ _ _ _ _ (CR.pe ⟨h, h', co1, cc1⟩ pe pl)
theorem k_cheapest {n : Nat} (hC : LC G p s m meth c b L xs bx bm) (hn : n + 5 < L ∧ L ≤ 3072) (cr : CR I K R M N) (next : ∀ I' K' R' M' N', CR I' K' R' M' N' → LW G p e s m below meth c b bx bm (nI n) 1463 [] I' K' R' M' N') : LW G p e s m below meth c b bx bm (nI n) 1233 [] I K R M N := by
  obtain ⟨h, h', co, cc⟩ := cr
  obtain ⟨jH, jE, jL, jR, jT⟩ := id co.2.2.2.2.1
  refine l_x hC dL_law_1233 ?_
  refine l_arg (k := 1) hC dL_law_1234 dL_law_1235 dL_law_1236 dL_law_1237 dL_law_1238 (by decide) rfl (by omega) ?_
  refine l_arg (k := 2) hC dL_law_1239 dL_law_1240 dL_law_1241 dL_law_1242 dL_law_1243 (by decide) rfl (by omega) ?_
  refine l_callX (as := [mi (sv xs (n + 1)), mi (sv xs (n + 2))]) hC dL_law_1244 lvL_152 rfl rfl ⟨rfl, rfl⟩ (s_X7_cheapest co cc (sv_r _ _) (sv_r _ _)) rfl rfl (Nat.le_of_ble_eq_true rfl) (fun v I1 K1 R1 q => ?_)
  obtain ⟨z, rfl, e1, co1, cc1⟩ := q
  refine l_m hC dL_law_1247 ?_
  refine l_arg (k := 1) hC dL_law_1248 dL_law_1249 dL_law_1250 dL_law_1251 dL_law_1252 (by decide) rfl (by omega) ?_
  refine l_arg (k := 2) hC dL_law_1253 dL_law_1254 dL_law_1255 dL_law_1256 dL_law_1257 (by decide) rfl (by omega) ?_
  refine l_callM (as := [mi (sv xs (n + 1)), mi (sv xs (n + 2))]) hC dL_law_1258 lvL_155 rfl rfl ⟨rfl, rfl⟩ (s_X8_cheapest jH jE (sv_r _ _) (sv_r _ _)) rfl rfl (Nat.le_of_ble_eq_true rfl) (fun v M1 N1 S1 q => ?_)
  obtain ⟨z2, rfl, e2, pe, rfl, hR⟩ := q
  refine ⟨hR, ?_⟩
  show LW G p e s m below meth c b bx bm _ 1261 [.int (Int32.ofInt z2), .int (Int32.ofInt z)] _ _ _ _ _
  refine l_eqI (tgt := 1463) hC dL_law_1261 (by decide) (by rw [e1, e2]) ?_
  exact next _ _ _ _ _ (CR.pe ⟨h, h', co1, cc1⟩ pe (fun _ _ => rfl))
theorem k_settle {n : Nat} (hC : LC G p s m meth c b L xs bx bm) (hn : n + 5 < L ∧ L ≤ 3072) (cr : CR I K R M N) (next : ∀ I' K' R' M' N', CR I' K' R' M' N' → LW G p e s m below meth c b bx bm (nI n) 1463 [] I' K' R' M' N') : LW G p e s m below meth c b bx bm (nI n) 1266 [] I K R M N := by
  obtain ⟨h, h', co, cc⟩ := cr
  obtain ⟨jH, jE, jL, jR, jT⟩ := id co.2.2.2.2.1
  refine l_x hC dL_law_1266 ?_
  refine l_arg (k := 1) hC dL_law_1267 dL_law_1268 dL_law_1269 dL_law_1270 dL_law_1271 (by decide) rfl (by omega) ?_
  refine l_arg (k := 2) hC dL_law_1272 dL_law_1273 dL_law_1274 dL_law_1275 dL_law_1276 (by decide) rfl (by omega) ?_
  refine l_arg (k := 3) hC dL_law_1277 dL_law_1278 dL_law_1279 dL_law_1280 dL_law_1281 (by decide) rfl (by omega) ?_
  refine l_callX (as := [mi (sv xs (n + 1)), mi (sv xs (n + 2)), mi (sv xs (n + 3))]) hC dL_law_1282 lvL_156 rfl rfl ⟨rfl, rfl⟩ (s_X7_settle co cc (sv_r _ _) (sv_r _ _) (sv_r _ _)) rfl rfl (Nat.le_of_ble_eq_true rfl) (fun v I1 K1 R1 q => ?_)
  obtain ⟨z, rfl, e1, co1, cc1⟩ := q
  refine l_m hC dL_law_1285 ?_
  refine l_arg (k := 1) hC dL_law_1286 dL_law_1287 dL_law_1288 dL_law_1289 dL_law_1290 (by decide) rfl (by omega) ?_
  refine l_arg (k := 2) hC dL_law_1291 dL_law_1292 dL_law_1293 dL_law_1294 dL_law_1295 (by decide) rfl (by omega) ?_
  refine l_arg (k := 3) hC dL_law_1296 dL_law_1297 dL_law_1298 dL_law_1299 dL_law_1300 (by decide) rfl (by omega) ?_
  refine l_callM (as := [mi (sv xs (n + 1)), mi (sv xs (n + 2)), mi (sv xs (n + 3))]) hC dL_law_1301 lvL_159 rfl rfl ⟨rfl, rfl⟩ (s_X8_settle jH jE (sv_r _ _) (sv_r _ _) (sv_r _ _)) rfl rfl (Nat.le_of_ble_eq_true rfl) (fun v M1 N1 S1 q => ?_)
  obtain ⟨z2, rfl, e2, pe, rfl, hR⟩ := q
  refine ⟨hR, ?_⟩
  show LW G p e s m below meth c b bx bm _ 1304 [.int (Int32.ofInt z2), .int (Int32.ofInt z)] _ _ _ _ _
  refine l_eqI (tgt := 1463) hC dL_law_1304 (by decide) (by rw [e1, e2]) ?_
  exact next _ _ _ _ _ (CR.pe ⟨h, h', co1, cc1⟩ pe (fun _ _ => rfl))
theorem k_stuck {n : Nat} (hC : LC G p s m meth c b L xs bx bm) (hn : n + 5 < L ∧ L ≤ 3072) (cr : CR I K R M N) (next : ∀ I' K' R' M' N', CR I' K' R' M' N' → LW G p e s m below meth c b bx bm (nI n) 1463 [] I' K' R' M' N') : LW G p e s m below meth c b bx bm (nI n) 1309 [] I K R M N := by
  obtain ⟨h, h', co, cc⟩ := cr
  obtain ⟨jH, jE, jL, jR, jT⟩ := id co.2.2.2.2.1
  refine l_x hC dL_law_1309 ?_
  refine l_callX (as := []) hC dL_law_1310 lvL_160 rfl rfl ⟨rfl, rfl⟩ (s_X7_stuck co cc) rfl rfl (Nat.le_of_ble_eq_true rfl) (fun v I1 K1 R1 q => ?_)
  obtain ⟨z, rfl, e1, co1, cc1⟩ := q
  refine l_m hC dL_law_1313 ?_
  refine l_callM (as := []) hC dL_law_1314 lvL_163 rfl rfl ⟨rfl, rfl⟩ (s_X8_stuck jH jE) rfl rfl (Nat.le_of_ble_eq_true rfl) (fun v M1 N1 S1 q => ?_)
  obtain ⟨z2, rfl, e2, pe, lf, hR⟩ := q
  refine ⟨hR, ?_⟩
  show LW G p e s m below meth c b bx bm _ 1317 [.int (Int32.ofInt z2), .int (Int32.ofInt z)] _ _ _ _ _
  refine l_eqI (tgt := 1463) hC dL_law_1317 (by decide) (by rw [e1, e2]) ?_
  exact next _ _ _ _ _ (CR.pe ⟨h, h', co1, cc1⟩ pe (fun j hj => lf 0 j (by decide) (by decide)))
theorem k_quarrel {n : Nat} (hC : LC G p s m meth c b L xs bx bm) (hn : n + 5 < L ∧ L ≤ 3072) (cr : CR I K R M N) (next : ∀ I' K' R' M' N', CR I' K' R' M' N' → LW G p e s m below meth c b bx bm (nI n) 1463 [] I' K' R' M' N') : LW G p e s m below meth c b bx bm (nI n) 1322 [] I K R M N := by
  obtain ⟨h, h', co, cc⟩ := cr
  obtain ⟨jH, jE, jL, jR, jT⟩ := id co.2.2.2.2.1
  refine l_x hC dL_law_1322 ?_
  refine l_callX (as := []) hC dL_law_1323 lvL_164 rfl rfl ⟨rfl, rfl⟩ (s_X7_quarrel co cc) rfl rfl (Nat.le_of_ble_eq_true rfl) (fun v I1 K1 R1 q => ?_)
  obtain ⟨z, rfl, e1, co1, cc1⟩ := q
  refine l_m hC dL_law_1326 ?_
  refine l_callM (as := []) hC dL_law_1327 lvL_167 rfl rfl ⟨rfl, rfl⟩ (s_X8_quarrel jH jE) rfl rfl (Nat.le_of_ble_eq_true rfl) (fun v M1 N1 S1 q => ?_)
  obtain ⟨z2, rfl, e2, pe, lf, hR⟩ := q
  refine ⟨hR, ?_⟩
  show LW G p e s m below meth c b bx bm _ 1330 [.int (Int32.ofInt z2), .int (Int32.ofInt z)] _ _ _ _ _
  refine l_eqI (tgt := 1463) hC dL_law_1330 (by decide) (by rw [e1, e2]) ?_
  exact next _ _ _ _ _ (CR.pe ⟨h, h', co1, cc1⟩ pe (fun j hj => lf 0 j (by decide) (by decide)))
theorem k_asked {n : Nat} (hC : LC G p s m meth c b L xs bx bm) (hn : n + 5 < L ∧ L ≤ 3072) (cr : CR I K R M N) (next : ∀ I' K' R' M' N', CR I' K' R' M' N' → LW G p e s m below meth c b bx bm (nI n) 1463 [] I' K' R' M' N') : LW G p e s m below meth c b bx bm (nI n) 1335 [] I K R M N := by
  obtain ⟨h, h', co, cc⟩ := cr
  obtain ⟨jH, jE, jL, jR, jT⟩ := id co.2.2.2.2.1
  refine l_x hC dL_law_1335 ?_
  refine l_callX (as := []) hC dL_law_1336 lvL_168 rfl rfl ⟨rfl, rfl⟩ (s_X7_asked co cc) rfl rfl (Nat.le_of_ble_eq_true rfl) (fun v I1 K1 R1 q => ?_)
  obtain ⟨z, rfl, e1, rfl, rfl, rfl⟩ := q
  refine l_m hC dL_law_1339 ?_
  refine l_callM (as := []) hC dL_law_1340 lvL_171 rfl rfl ⟨rfl, rfl⟩ (s_X8_asked) rfl rfl (Nat.le_of_ble_eq_true rfl) (fun v M1 N1 S1 q => ?_)
  obtain ⟨z2, rfl, e2, rfl, rfl, hR⟩ := q
  refine ⟨hR.symm, ?_⟩
  show LW G p e s m below meth c b bx bm _ 1343 [.int (Int32.ofInt z2), .int (Int32.ofInt z)] _ _ _ _ _
  refine l_eqI (tgt := 1463) hC dL_law_1343 (by decide) (by rw [e1, e2]) ?_
  exact next _ _ _ _ _ (⟨h, h', co, cc⟩)
theorem k_many {n : Nat} (hC : LC G p s m meth c b L xs bx bm) (hn : n + 5 < L ∧ L ≤ 3072) (cr : CR I K R M N) (next : ∀ I' K' R' M' N', CR I' K' R' M' N' → LW G p e s m below meth c b bx bm (nI n) 1463 [] I' K' R' M' N') : LW G p e s m below meth c b bx bm (nI n) 1348 [] I K R M N := by
  obtain ⟨h, h', co, cc⟩ := cr
  obtain ⟨jH, jE, jL, jR, jT⟩ := id co.2.2.2.2.1
  refine l_x hC dL_law_1348 ?_
  refine l_callX (as := []) hC dL_law_1349 lvL_172 rfl rfl ⟨rfl, rfl⟩ (s_X7_many co cc) rfl rfl (Nat.le_of_ble_eq_true rfl) (fun v I1 K1 R1 q => ?_)
  obtain ⟨z, rfl, e1, rfl, rfl, rfl⟩ := q
  refine l_m hC dL_law_1352 ?_
  refine l_callM (as := []) hC dL_law_1353 lvL_176 rfl rfl ⟨rfl, rfl⟩ (s_X8_many) rfl rfl (Nat.le_of_ble_eq_true rfl) (fun v M1 N1 S1 q => ?_)
  obtain ⟨z2, rfl, e2, rfl, rfl, hR⟩ := q
  refine ⟨hR.symm, ?_⟩
  show LW G p e s m below meth c b bx bm _ 1356 [.long (Int64.ofInt z2), .long (Int64.ofInt z)] _ _ _ _ _
  refine l_eqL (tgt := 1463) hC dL_law_1356 dL_law_1357 (by decide) (by rw [e1, e2]) ?_
  exact next _ _ _ _ _ (⟨h, h', co, cc⟩)
theorem k_upper {n : Nat} (hC : LC G p s m meth c b L xs bx bm) (hn : n + 5 < L ∧ L ≤ 3072) (cr : CR I K R M N) (next : ∀ I' K' R' M' N', CR I' K' R' M' N' → LW G p e s m below meth c b bx bm (nI n) 1463 [] I' K' R' M' N') : LW G p e s m below meth c b bx bm (nI n) 1362 [] I K R M N := by
  obtain ⟨h, h', co, cc⟩ := cr
  obtain ⟨jH, jE, jL, jR, jT⟩ := id co.2.2.2.2.1
  refine l_x hC dL_law_1362 ?_
  refine l_callX (as := []) hC dL_law_1363 lvL_177 rfl rfl ⟨rfl, rfl⟩ (s_X7_upper co cc) rfl rfl (Nat.le_of_ble_eq_true rfl) (fun v I1 K1 R1 q => ?_)
  obtain ⟨z, rfl, e1, rfl, rfl, rfl⟩ := q
  refine l_m hC dL_law_1366 ?_
  refine l_callM (as := []) hC dL_law_1367 lvL_180 rfl rfl ⟨rfl, rfl⟩ (s_X8_upper) rfl rfl (Nat.le_of_ble_eq_true rfl) (fun v M1 N1 S1 q => ?_)
  obtain ⟨z2, rfl, e2, rfl, rfl, hR⟩ := q
  refine ⟨hR.symm, ?_⟩
  show LW G p e s m below meth c b bx bm _ 1370 [.long (Int64.ofInt z2), .long (Int64.ofInt z)] _ _ _ _ _
  refine l_eqL (tgt := 1463) hC dL_law_1370 dL_law_1371 (by decide) (by rw [e1, e2]) ?_
  exact next _ _ _ _ _ (⟨h, h', co, cc⟩)
theorem k_lower {n : Nat} (hC : LC G p s m meth c b L xs bx bm) (hn : n + 5 < L ∧ L ≤ 3072) (cr : CR I K R M N) (next : ∀ I' K' R' M' N', CR I' K' R' M' N' → LW G p e s m below meth c b bx bm (nI n) 1463 [] I' K' R' M' N') : LW G p e s m below meth c b bx bm (nI n) 1376 [] I K R M N := by
  obtain ⟨h, h', co, cc⟩ := cr
  obtain ⟨jH, jE, jL, jR, jT⟩ := id co.2.2.2.2.1
  refine l_x hC dL_law_1376 ?_
  refine l_callX (as := []) hC dL_law_1377 lvL_181 rfl rfl ⟨rfl, rfl⟩ (s_X7_lower co cc) rfl rfl (Nat.le_of_ble_eq_true rfl) (fun v I1 K1 R1 q => ?_)
  obtain ⟨z, rfl, e1, rfl, rfl, rfl⟩ := q
  refine l_m hC dL_law_1380 ?_
  refine l_callM (as := []) hC dL_law_1381 lvL_184 rfl rfl ⟨rfl, rfl⟩ (s_X8_lower) rfl rfl (Nat.le_of_ble_eq_true rfl) (fun v M1 N1 S1 q => ?_)
  obtain ⟨z2, rfl, e2, rfl, rfl, hR⟩ := q
  refine ⟨hR.symm, ?_⟩
  show LW G p e s m below meth c b bx bm _ 1384 [.long (Int64.ofInt z2), .long (Int64.ofInt z)] _ _ _ _ _
  refine l_eqL (tgt := 1463) hC dL_law_1384 dL_law_1385 (by decide) (by rw [e1, e2]) ?_
  exact next _ _ _ _ _ (⟨h, h', co, cc⟩)
theorem k_count {n : Nat} (hC : LC G p s m meth c b L xs bx bm) (hn : n + 5 < L ∧ L ≤ 3072) (cr : CR I K R M N) (next : ∀ I' K' R' M' N', CR I' K' R' M' N' → LW G p e s m below meth c b bx bm (nI n) 1463 [] I' K' R' M' N') : LW G p e s m below meth c b bx bm (nI n) 1390 [] I K R M N := by
  obtain ⟨h, h', co, cc⟩ := cr
  obtain ⟨jH, jE, jL, jR, jT⟩ := id co.2.2.2.2.1
  refine l_x hC dL_law_1390 ?_
  refine l_arg (k := 1) hC dL_law_1391 dL_law_1392 dL_law_1393 dL_law_1394 dL_law_1395 (by decide) rfl (by omega) ?_
  refine l_callX (as := [mi (sv xs (n + 1))]) hC dL_law_1396 lvL_185 rfl rfl ⟨rfl, rfl⟩ (s_X7_count co cc (sv_r _ _)) rfl rfl (Nat.le_of_ble_eq_true rfl) (fun v I1 K1 R1 q => ?_)
  obtain ⟨z, rfl, e1, rfl, rfl, rfl⟩ := q
  refine l_m hC dL_law_1399 ?_
  refine l_arg (k := 1) hC dL_law_1400 dL_law_1401 dL_law_1402 dL_law_1403 dL_law_1404 (by decide) rfl (by omega) ?_
  refine l_callM (as := [mi (sv xs (n + 1))]) hC dL_law_1405 lvL_188 rfl rfl ⟨rfl, rfl⟩ (s_X8_count jH jE jT jR (sv_r _ _)) rfl rfl (Nat.le_of_ble_eq_true rfl) (fun v M1 N1 S1 q => ?_)
  obtain ⟨z2, rfl, e2, rfl, rfl, hR⟩ := q
  refine ⟨hR.symm, ?_⟩
  show LW G p e s m below meth c b bx bm _ 1408 [.int (Int32.ofInt z2), .int (Int32.ofInt z)] _ _ _ _ _
  refine l_eqI (tgt := 1463) hC dL_law_1408 (by decide) (by rw [e1, e2]) ?_
  exact next _ _ _ _ _ (⟨h, h', co, cc⟩)
theorem k_finding {n : Nat} (hC : LC G p s m meth c b L xs bx bm) (hn : n + 5 < L ∧ L ≤ 3072) (cr : CR I K R M N) (next : ∀ I' K' R' M' N', CR I' K' R' M' N' → LW G p e s m below meth c b bx bm (nI n) 1463 [] I' K' R' M' N') : LW G p e s m below meth c b bx bm (nI n) 1413 [] I K R M N := by
  obtain ⟨h, h', co, cc⟩ := cr
  obtain ⟨jH, jE, jL, jR, jT⟩ := id co.2.2.2.2.1
  refine l_x hC dL_law_1413 ?_
  refine l_callX (as := []) hC dL_law_1414 lvL_189 rfl rfl ⟨rfl, rfl⟩ (s_X7_finding co cc) rfl rfl (Nat.le_of_ble_eq_true rfl) (fun v I1 K1 R1 q => ?_)
  obtain ⟨z, rfl, e1, rfl, rfl, rfl⟩ := q
  refine l_m hC dL_law_1417 ?_
  refine l_callM (as := []) hC dL_law_1418 lvL_192 rfl rfl ⟨rfl, rfl⟩ (s_X8_finding) rfl rfl (Nat.le_of_ble_eq_true rfl) (fun v M1 N1 S1 q => ?_)
  obtain ⟨z2, rfl, e2, rfl, rfl, hR⟩ := q
  refine ⟨hR.symm, ?_⟩
  show LW G p e s m below meth c b bx bm _ 1421 [.int (Int32.ofInt z2), .int (Int32.ofInt z)] _ _ _ _ _
  refine l_eqI (tgt := 1463) hC dL_law_1421 (by decide) (by rw [e1, e2]) ?_
  exact next _ _ _ _ _ (⟨h, h', co, cc⟩)
theorem k_findings {n : Nat} (hC : LC G p s m meth c b L xs bx bm) (hn : n + 5 < L ∧ L ≤ 3072) (cr : CR I K R M N) (next : ∀ I' K' R' M' N', CR I' K' R' M' N' → LW G p e s m below meth c b bx bm (nI n) 1463 [] I' K' R' M' N') : LW G p e s m below meth c b bx bm (nI n) 1426 [] I K R M N := by
  obtain ⟨h, h', co, cc⟩ := cr
  obtain ⟨jH, jE, jL, jR, jT⟩ := id co.2.2.2.2.1
  refine l_x hC dL_law_1426 ?_
  refine l_arg (k := 1) hC dL_law_1427 dL_law_1428 dL_law_1429 dL_law_1430 dL_law_1431 (by decide) rfl (by omega) ?_
  refine l_callX (as := [mi (sv xs (n + 1))]) hC dL_law_1432 lvL_193 rfl rfl ⟨rfl, rfl⟩ (s_X7_findings co cc (sv_r _ _)) rfl rfl (Nat.le_of_ble_eq_true rfl) (fun v I1 K1 R1 q => ?_)
  obtain ⟨z, rfl, e1, rfl, rfl, rfl⟩ := q
  refine l_m hC dL_law_1435 ?_
  refine l_arg (k := 1) hC dL_law_1436 dL_law_1437 dL_law_1438 dL_law_1439 dL_law_1440 (by decide) rfl (by omega) ?_
  refine l_callM (as := [mi (sv xs (n + 1))]) hC dL_law_1441 lvL_196 rfl rfl ⟨rfl, rfl⟩ (s_X8_findings (sv_r _ _)) rfl rfl (Nat.le_of_ble_eq_true rfl) (fun v M1 N1 S1 q => ?_)
  obtain ⟨z2, rfl, e2, rfl, rfl, hR⟩ := q
  refine ⟨hR.symm, ?_⟩
  show LW G p e s m below meth c b bx bm _ 1444 [.int (Int32.ofInt z2), .int (Int32.ofInt z)] _ _ _ _ _
  refine l_eqI (tgt := 1463) hC dL_law_1444 (by decide) (by rw [e1, e2]) ?_
  exact next _ _ _ _ _ (⟨h, h', co, cc⟩)
theorem k_digest {n : Nat} (hC : LC G p s m meth c b L xs bx bm) (hn : n + 5 < L ∧ L ≤ 3072) (cr : CR I K R M N) (next : ∀ I' K' R' M' N', CR I' K' R' M' N' → LW G p e s m below meth c b bx bm (nI n) 1463 [] I' K' R' M' N') : LW G p e s m below meth c b bx bm (nI n) 1449 [] I K R M N := by
  obtain ⟨h, h', co, cc⟩ := cr
  obtain ⟨jH, jE, jL, jR, jT⟩ := id co.2.2.2.2.1
  refine l_x hC dL_law_1449 ?_
  refine l_callX (as := []) hC dL_law_1450 lvL_197 rfl rfl ⟨rfl, rfl⟩ (s_X7_digest co cc) rfl rfl (Nat.le_of_ble_eq_true rfl) (fun v I1 K1 R1 q => ?_)
  obtain ⟨z, rfl, e1, rfl, rfl, rfl⟩ := q
  refine l_m hC dL_law_1453 ?_
  refine l_callM (as := []) hC dL_law_1454 lvL_200 rfl rfl ⟨rfl, rfl⟩ (s_X8_digest jH jE jT jR) rfl rfl (Nat.le_of_ble_eq_true rfl) (fun v M1 N1 S1 q => ?_)
  obtain ⟨z2, rfl, e2, rfl, lh, hR⟩ := q
  refine ⟨hR, ?_⟩
  show LW G p e s m below meth c b bx bm _ 1457 [.long (Int64.ofInt z2), .long (Int64.ofInt z)] _ _ _ _ _
  refine l_eqL (tgt := 1463) hC dL_law_1457 dL_law_1458 (by decide) (by rw [e1, e2]) ?_
  exact next _ _ _ _ _ (CR.pe ⟨h, h', co, cc⟩ (fun _ _ _ => rfl) (fun j hj => lh 0 j (by omega)))
end
