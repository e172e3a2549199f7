theorem empty_v {M : MI} (t : Int) : HN M (s_empty t M).2 := by
  unfold s_empty
  split
  · exact HN.rf M
  · split
    · exact HN.mt M _
    · exact HN.tl M _
/-! THE LAW: what is asked where the statements hold together. -/
section
variable {G : GT} {sc : NC} {a ro rq hh gg ee : Nat} {R D W T n : Nat} {ok : Bool}
theorem lw_1274 (hap : n_ap [(ro, shX), (rq, shX), (hh, [.inr (0, 64)]), (gg, [.inr (0, 64)]), (ee, [.inr (0, 48)])]) (hB : 2 ≤ R ∧ R ≤ 5 ∧ 1 ≤ D ∧ D ≤ 6 ∧ 1 ≤ W ∧ W ≤ 3 ∧ 1 ≤ T ∧ T ≤ 5 ∧ n ≤ 9) {N : NM} {M Nn M' Nn' : MI} {x13 : Int} (qN : QI R D W T n true N M Nn M' Nn') : n_Run G mtL_law room_1 n_Zl sc [(ro, shX), (rq, shX), (hh, [.inr (0, 64)]), (gg, [.inr (0, 64)]), (ee, [.inr (0, 48)])] 600000 7302250 1274 [(0, mr a), (1, mr ro), (2, mr rq), (3, mr hh), (4, mr gg), (5, mr ee), (6, mi (W : Int)), (7, mi (T : Int)), (8, mi (R : Int)), (9, mi (n : Int)), (13, mi x13)] [] N := by
  have ok := qN.2.2.2.1
  have t1 := third_m qN.2.1 ok
  refine n_aload_n dL_law_1274 1 rfl rfl ?_
  refine n_callWi (i := 0) (as := []) dL_law_1275 lvL_132 rfl rfl ⟨rfl, rfl⟩ hap rfl (x_third qN.1.1) (fun _ _ => rfl) rfl rfl rfl ⟨Nat.le_of_ble_eq_true rfl, Nat.le_of_ble_eq_true rfl⟩ (fun z1275 N1275 hq1275 ho1275 => ?_)
  obtain ⟨e1275, c1275⟩ := hq1275
  have qN1275 := qN.o c1275 (third_v) ho1275
  refine n_aload_n dL_law_1278 2 rfl rfl ?_
  refine n_callWi (i := 1) (as := []) dL_law_1279 lvL_132 rfl rfl ⟨rfl, rfl⟩ hap rfl (x_third qN1275.1.2) (fun _ _ => rfl) rfl rfl rfl ⟨Nat.le_of_ble_eq_true rfl, Nat.le_of_ble_eq_true rfl⟩ (fun z1279 N1279 hq1279 ho1279 => ?_)
  obtain ⟨e1279, c1279⟩ := hq1279
  have qN1279 := qN1275.q c1279 (third_v) ho1279
  refine n_neF (tgt := 1306) dL_law_1282 (by decide) (by rw [e1275, e1279]; exact t1.symm) ?_
  refine n_aload_n dL_law_1285 1 rfl rfl ?_
  refine n_iconst dL_law_1286 ?_
  refine n_callWi (i := 0) (as := [_]) dL_law_1287 lvL_135 rfl rfl ⟨rfl, rfl⟩ hap rfl (x_empty qN1279.1.1 (by omega)) (fun _ _ => rfl) rfl rfl rfl ⟨Nat.le_of_ble_eq_true rfl, Nat.le_of_ble_eq_true rfl⟩ (fun z1287 N1287 hq1287 ho1287 => ?_)
  obtain ⟨e1287, c1287⟩ := hq1287
  have qN1287 := qN1279.o c1287 (empty_v _) ho1287
  have en : 0 ≤ z1287 := by rw [e1287]; exact empty_nn qN1279.2.1 qN1279.2.2.2.1
  refine n_if_lt (tgt := 1306) dL_law_1290 (by decide) (by rw [e1287]; exact empty_r qN1279.2.1 qN1279.2.2.2.1) (fun h1290 => ?_) (fun h1290 => ?_)
  · exfalso; omega
  · refine n_aload_n dL_law_1293 2 rfl rfl ?_
    refine n_callWi (i := 1) (as := []) dL_law_1294 lvL_138 rfl rfl ⟨rfl, rfl⟩ hap rfl (x_stuck qN1287.1.2) (fun _ _ => rfl) rfl rfl rfl ⟨Nat.le_of_ble_eq_true rfl, Nat.le_of_ble_eq_true rfl⟩ (fun z1294 N1294 hq1294 ho1294 => ?_)
    obtain ⟨e1294, c1294⟩ := hq1294
    have qN1294 := qN1287.q c1294 (HN.rf _) ho1294
    refine n_bipush dL_law_1297 (by decide) ?_
    refine n_neF (tgt := 1306) dL_law_1299 (by decide) (by rw [e1294]; exact stuck_4 ((PM.ok qN1294.2.1).trans qN1294.2.2.2.1)) ?_
    refine n_iconst dL_law_1302 ?_
    refine n_goto (tgt := 1307) dL_law_1303 (by decide) ?_
    exact n_law_ret dL_law_1307
theorem lw_1179 (hap : n_ap [(ro, shX), (rq, shX), (hh, [.inr (0, 64)]), (gg, [.inr (0, 64)]), (ee, [.inr (0, 48)])]) (hB : 2 ≤ R ∧ R ≤ 5 ∧ 1 ≤ D ∧ D ≤ 6 ∧ 1 ≤ W ∧ W ≤ 3 ∧ 1 ≤ T ∧ T ≤ 5 ∧ n ≤ 9) : ∀ e : Nat, e ≤ n → ∀ {N : NM} {M Nn M' Nn' : MI}, QI R D W T n true N M Nn M' Nn' → n_Run G mtL_law room_1 n_Zl sc [(ro, shX), (rq, shX), (hh, [.inr (0, 64)]), (gg, [.inr (0, 64)]), (ee, [.inr (0, 48)])] 600000 7302250 1179 [(0, mr a), (1, mr ro), (2, mr rq), (3, mr hh), (4, mr gg), (5, mr ee), (6, mi (W : Int)), (7, mi (T : Int)), (8, mi (R : Int)), (9, mi (n : Int)), (13, mi (e : Int))] [] N := by
  refine lpn n (fun e he ih => ?_) ?_
  · intro N M Nn M' Nn' qN
    have l2 : ∀ {N : NM} {M Nn M' Nn' : MI}, QI R D W T n true N M Nn M' Nn' → n_Run G mtL_law room_1 n_Zl sc [(ro, shX), (rq, shX), (hh, [.inr (0, 64)]), (gg, [.inr (0, 64)]), (ee, [.inr (0, 48)])] 600000 7302250 1227 [(0, mr a), (1, mr ro), (2, mr rq), (3, mr hh), (4, mr gg), (5, mr ee), (6, mi (W : Int)), (7, mi (T : Int)), (8, mi (R : Int)), (9, mi (n : Int)), (13, mi (e : Int))] [] N := by
      intro N M Nn M' Nn' qN
      have ok := qN.2.2.2.1
      have h25 : (e : Int) < M 0 25 := by have := qN.2.2.1.2.2.2.2; omega
      have w1 := same_m qN.2.1 ok h25
      refine n_aload_n dL_law_1227 1 rfl rfl ?_
      refine n_iload dL_law_1228 10 rfl ?_
      refine n_callWi (i := 0) (as := [_]) dL_law_1230 lvL_129 rfl rfl ⟨rfl, rfl⟩ hap rfl (x_same qN.1.1 (by omega)) (fun _ _ => rfl) rfl rfl rfl ⟨Nat.le_of_ble_eq_true rfl, Nat.le_of_ble_eq_true rfl⟩ (fun z1230 N1230 hq1230 ho1230 => ?_)
      obtain ⟨e1230, c1230⟩ := hq1230
      have qN1230 := qN.o c1230 (same_v _) ho1230
      refine n_istore (lv' := [(0, _), (1, _), (2, _), (3, _), (4, _), (5, _), (6, _), (7, _), (8, _), (9, _), (13, _), (14, _)]) dL_law_1233 rfl rfl ?_
      refine n_aload_n dL_law_1235 1 rfl rfl ?_
      refine n_callGi (i := 0) (as := []) dL_law_1236 lvL_93 rfl rfl ⟨rfl, rfl⟩ hap rfl (x_asked qN1230.1.1) (fun _ _ => rfl) rfl rfl rfl ⟨Nat.le_of_ble_eq_true rfl, Nat.le_of_ble_eq_true rfl⟩ ?_
      refine n_istore (lv' := [(0, _), (1, _), (2, _), (3, _), (4, _), (5, _), (6, _), (7, _), (8, _), (9, _), (13, _), (14, _), (15, _)]) dL_law_1239 rfl rfl ?_
      refine n_aload_n dL_law_1241 2 rfl rfl ?_
      refine n_iload dL_law_1242 10 rfl ?_
      refine n_callWi (i := 1) (as := [_]) dL_law_1244 lvL_129 rfl rfl ⟨rfl, rfl⟩ hap rfl (x_same qN1230.1.2 (by omega)) (fun _ _ => rfl) rfl rfl rfl ⟨Nat.le_of_ble_eq_true rfl, Nat.le_of_ble_eq_true rfl⟩ (fun z1244 N1244 hq1244 ho1244 => ?_)
      obtain ⟨e1244, c1244⟩ := hq1244
      have qN1244 := qN1230.q c1244 (same_v _) ho1244
      refine n_iload dL_law_1247 11 rfl ?_
      refine n_neF (tgt := 1266) dL_law_1249 (by decide) (by rw [e1244, e1230]; exact w1.1) ?_
      refine n_iload dL_law_1252 11 rfl ?_
      refine n_if_lt (tgt := 1268) dL_law_1254 (by decide) (by rw [e1230]; exact same_r ok h25) (fun h1254 => ?_) (fun h1254 => ?_)
      · refine n_iinc (lv' := [(0, _), (1, _), (2, _), (3, _), (4, _), (5, _), (6, _), (7, _), (8, _), (9, _), (13, _), (14, _), (15, _)]) dL_law_1268 10 rfl rfl rfl ?_
        refine n_goto (tgt := 1179) dL_law_1271 (by decide) ?_
        refine n_top (lv' := [(0, _), (1, _), (2, _), (3, _), (4, _), (5, _), (6, _), (7, _), (8, _), (9, _), (13, _)]) 14 rfl ?_
        exact ih qN1244
      · refine n_aload_n dL_law_1257 2 rfl rfl ?_
        refine n_callGi (i := 1) (as := []) dL_law_1258 lvL_93 rfl rfl ⟨rfl, rfl⟩ hap rfl (x_asked qN1244.1.2) (fun _ _ => rfl) rfl rfl rfl ⟨Nat.le_of_ble_eq_true rfl, Nat.le_of_ble_eq_true rfl⟩ ?_
        refine n_iload dL_law_1261 12 rfl ?_
        refine n_eqT (tgt := 1268) dL_law_1263 (by decide) (w1.2 (by rw [← e1230]; omega)) ?_
        refine n_iinc (lv' := [(0, _), (1, _), (2, _), (3, _), (4, _), (5, _), (6, _), (7, _), (8, _), (9, _), (13, _), (14, _), (15, _)]) dL_law_1268 10 rfl rfl rfl ?_
        refine n_goto (tgt := 1179) dL_law_1271 (by decide) ?_
        refine n_top (lv' := [(0, _), (1, _), (2, _), (3, _), (4, _), (5, _), (6, _), (7, _), (8, _), (9, _), (13, _)]) 14 rfl ?_
        exact ih qN1244
    have ok := qN.2.2.2.1
    have h25 : (e : Int) < M 0 25 := by have := qN.2.2.1.2.2.2.2; omega
    have w1 := whose_m qN.2.1 ok h25
    refine n_iload dL_law_1179 10 rfl ?_
    refine n_iload dL_law_1181 9 rfl ?_
    refine n_ic_ge (tgt := 1274) dL_law_1183 (by decide) (by omega) (fun h1183 => ?_) (fun h1183 => ?_)
    · exfalso; omega
    · refine n_aload_n dL_law_1186 1 rfl rfl ?_
      refine n_iload dL_law_1187 10 rfl ?_
      refine n_callWi (i := 0) (as := [_]) dL_law_1189 lvL_126 rfl rfl ⟨rfl, rfl⟩ hap rfl (x_whose qN.1.1 (by omega)) (fun _ _ => rfl) rfl rfl rfl ⟨Nat.le_of_ble_eq_true rfl, Nat.le_of_ble_eq_true rfl⟩ (fun z1189 N1189 hq1189 ho1189 => ?_)
      obtain ⟨e1189, c1189⟩ := hq1189
      have qN1189 := qN.o c1189 (whose_v _) ho1189
      refine n_istore (lv' := [(0, _), (1, _), (2, _), (3, _), (4, _), (5, _), (6, _), (7, _), (8, _), (9, _), (13, _), (14, _)]) dL_law_1192 rfl rfl ?_
      refine n_aload_n dL_law_1194 1 rfl rfl ?_
      refine n_callGi (i := 0) (as := []) dL_law_1195 lvL_93 rfl rfl ⟨rfl, rfl⟩ hap rfl (x_asked qN1189.1.1) (fun _ _ => rfl) rfl rfl rfl ⟨Nat.le_of_ble_eq_true rfl, Nat.le_of_ble_eq_true rfl⟩ ?_
      refine n_istore (lv' := [(0, _), (1, _), (2, _), (3, _), (4, _), (5, _), (6, _), (7, _), (8, _), (9, _), (13, _), (14, _), (15, _)]) dL_law_1198 rfl rfl ?_
      refine n_aload_n dL_law_1200 2 rfl rfl ?_
      refine n_iload dL_law_1201 10 rfl ?_
      refine n_callWi (i := 1) (as := [_]) dL_law_1203 lvL_126 rfl rfl ⟨rfl, rfl⟩ hap rfl (x_whose qN1189.1.2 (by omega)) (fun _ _ => rfl) rfl rfl rfl ⟨Nat.le_of_ble_eq_true rfl, Nat.le_of_ble_eq_true rfl⟩ (fun z1203 N1203 hq1203 ho1203 => ?_)
      obtain ⟨e1203, c1203⟩ := hq1203
      have qN1203 := qN1189.q c1203 (whose_v _) ho1203
      refine n_iload dL_law_1206 11 rfl ?_
      refine n_neF (tgt := 1225) dL_law_1208 (by decide) (by rw [e1203, e1189]; exact w1.1) ?_
      refine n_iload dL_law_1211 11 rfl ?_
      refine n_if_lt (tgt := 1227) dL_law_1213 (by decide) (by rw [e1189]; exact whose_r ok h25) (fun h1213 => ?_) (fun h1213 => ?_)
      · refine n_top (lv' := [(0, _), (1, _), (2, _), (3, _), (4, _), (5, _), (6, _), (7, _), (8, _), (9, _), (13, _)]) 14 rfl ?_
        exact l2 qN1203
      · refine n_aload_n dL_law_1216 2 rfl rfl ?_
        refine n_callGi (i := 1) (as := []) dL_law_1217 lvL_93 rfl rfl ⟨rfl, rfl⟩ hap rfl (x_asked qN1203.1.2) (fun _ _ => rfl) rfl rfl rfl ⟨Nat.le_of_ble_eq_true rfl, Nat.le_of_ble_eq_true rfl⟩ ?_
        refine n_iload dL_law_1220 12 rfl ?_
        refine n_eqT (tgt := 1227) dL_law_1222 (by decide) (w1.2 (by rw [← e1189]; omega)) ?_
        refine n_top (lv' := [(0, _), (1, _), (2, _), (3, _), (4, _), (5, _), (6, _), (7, _), (8, _), (9, _), (13, _)]) 14 rfl ?_
        exact l2 qN1203
  · intro N M Nn M' Nn' qN
    refine n_iload dL_law_1179 10 rfl ?_
    refine n_iload dL_law_1181 9 rfl ?_
    refine n_ic_ge (tgt := 1274) dL_law_1183 (by decide) (by omega) (fun h1183 => ?_) (fun h1183 => ?_)
    · exact lw_1274 hap hB qN
    · exfalso; omega
theorem lw_1043 (hap : n_ap [(ro, shX), (rq, shX), (hh, [.inr (0, 64)]), (gg, [.inr (0, 64)]), (ee, [.inr (0, 48)])]) (hB : 2 ≤ R ∧ R ≤ 5 ∧ 1 ≤ D ∧ D ≤ 6 ∧ 1 ≤ W ∧ W ≤ 3 ∧ 1 ≤ T ∧ T ≤ 5 ∧ n ≤ 9) : ∀ w : Nat, w ≤ W → ∀ {N : NM} {M Nn M' Nn' : MI}, QI R D W T n true N M Nn M' Nn' → n_Run G mtL_law room_1 n_Zl sc [(ro, shX), (rq, shX), (hh, [.inr (0, 64)]), (gg, [.inr (0, 64)]), (ee, [.inr (0, 48)])] 600000 7302250 1043 [(0, mr a), (1, mr ro), (2, mr rq), (3, mr hh), (4, mr gg), (5, mr ee), (6, mi (W : Int)), (7, mi (T : Int)), (8, mi (R : Int)), (9, mi (n : Int)), (13, mi (w : Int))] [] N := by
  refine lpn W (fun w hw ih => ?_) ?_
  · have l2 : ∀ x : Nat, x ≤ w → ∀ {N : NM} {M Nn M' Nn' : MI}, QI R D W T n true N M Nn M' Nn' → n_Run G mtL_law room_1 n_Zl sc [(ro, shX), (rq, shX), (hh, [.inr (0, 64)]), (gg, [.inr (0, 64)]), (ee, [.inr (0, 48)])] 600000 7302250 1117 [(0, mr a), (1, mr ro), (2, mr rq), (3, mr hh), (4, mr gg), (5, mr ee), (6, mi (W : Int)), (7, mi (T : Int)), (8, mi (R : Int)), (9, mi (n : Int)), (13, mi (w : Int)), (14, mi (x : Int))] [] N := by
      refine lpn w (fun x hx ih2 => ?_) ?_
      · intro N M Nn M' Nn' qN
        have ok := qN.2.2.2.1
        have h13 := qN.2.2.1.2.2.1
        have a1 := met_m qN.2.1 ok (w := x) (o := w) (by omega) (by omega) (by omega)
        have a2 := met_s qN.2.1 ok (w := w) (o := x) (by omega) (by omega) (by omega)
        refine n_iload dL_law_1117 11 rfl ?_
        refine n_iload dL_law_1119 10 rfl ?_
        refine n_ic_ge (tgt := 1170) dL_law_1121 (by decide) (by omega) (fun h1121 => ?_) (fun h1121 => ?_)
        · exfalso; omega
        · refine n_aload_n dL_law_1124 1 rfl rfl ?_
          refine n_iload dL_law_1125 10 rfl ?_
          refine n_iload dL_law_1127 11 rfl ?_
          refine n_callWi (i := 0) (as := [_, _]) dL_law_1129 lvL_123 rfl rfl ⟨rfl, rfl⟩ hap rfl (x_met qN.1.1 (by omega) (by omega)) (fun _ _ => rfl) rfl rfl rfl ⟨Nat.le_of_ble_eq_true rfl, Nat.le_of_ble_eq_true rfl⟩ (fun z1129 N1129 hq1129 ho1129 => ?_)
          obtain ⟨e1129, c1129⟩ := hq1129
          have qN1129 := qN.o c1129 (met_v _ _) ho1129
          refine n_aload_n dL_law_1132 2 rfl rfl ?_
          refine n_iload dL_law_1133 11 rfl ?_
          refine n_iload dL_law_1135 10 rfl ?_
          refine n_callWi (i := 1) (as := [_, _]) dL_law_1137 lvL_123 rfl rfl ⟨rfl, rfl⟩ hap rfl (x_met qN1129.1.2 (by omega) (by omega)) (fun _ _ => rfl) rfl rfl rfl ⟨Nat.le_of_ble_eq_true rfl, Nat.le_of_ble_eq_true rfl⟩ (fun z1137 N1137 hq1137 ho1137 => ?_)
          obtain ⟨e1137, c1137⟩ := hq1137
          have qN1137 := qN1129.q c1137 (met_v _ _) ho1137
          refine n_neF (tgt := 1162) dL_law_1140 (by decide) (by rw [e1129, e1137]; exact a2.symm.trans a1.symm) ?_
          refine n_aload_n dL_law_1143 2 rfl rfl ?_
          refine n_iload dL_law_1144 11 rfl ?_
          refine n_iload dL_law_1146 10 rfl ?_
          refine n_callWi (i := 1) (as := [_, _]) dL_law_1148 lvL_123 rfl rfl ⟨rfl, rfl⟩ hap rfl (x_met qN1137.1.2 (by omega) (by omega)) (fun _ _ => rfl) rfl rfl rfl ⟨Nat.le_of_ble_eq_true rfl, Nat.le_of_ble_eq_true rfl⟩ (fun z1148 N1148 hq1148 ho1148 => ?_)
          obtain ⟨e1148, c1148⟩ := hq1148
          have qN1148 := qN1137.q c1148 (met_v _ _) ho1148
          refine n_aload_n dL_law_1151 2 rfl rfl ?_
          refine n_iload dL_law_1152 10 rfl ?_
          refine n_iload dL_law_1154 11 rfl ?_
          refine n_callWi (i := 1) (as := [_, _]) dL_law_1156 lvL_123 rfl rfl ⟨rfl, rfl⟩ hap rfl (x_met qN1148.1.2 (by omega) (by omega)) (fun _ _ => rfl) rfl rfl rfl ⟨Nat.le_of_ble_eq_true rfl, Nat.le_of_ble_eq_true rfl⟩ (fun z1156 N1156 hq1156 ho1156 => ?_)
          obtain ⟨e1156, c1156⟩ := hq1156
          have qN1156 := qN1148.q c1156 (met_v _ _) ho1156
          have h13' := qN1129.2.2.1.2.2.1
          have a3 := met_m qN1137.2.1 qN1137.2.2.2.1 (w := x) (o := w) (by omega) (by omega) (by omega)
          have a4 := (met_m qN1148.2.1 qN1148.2.2.2.1 (w := w) (o := x) (by omega) (by omega) (by omega)).trans (met_s qN1148.2.1 qN1148.2.2.2.1 (w := x) (o := w) (by omega) (by omega) (by omega))
          refine n_eqT (tgt := 1164) dL_law_1159 (by decide) (by rw [e1148, e1156]; exact a3.trans a4.symm) ?_
          refine n_iinc (lv' := [(0, _), (1, _), (2, _), (3, _), (4, _), (5, _), (6, _), (7, _), (8, _), (9, _), (13, _), (14, _)]) dL_law_1164 11 rfl rfl rfl ?_
          refine n_goto (tgt := 1117) dL_law_1167 (by decide) ?_
          exact ih2 qN1156
      · intro N M Nn M' Nn' qN
        refine n_iload dL_law_1117 11 rfl ?_
        refine n_iload dL_law_1119 10 rfl ?_
        refine n_ic_ge (tgt := 1170) dL_law_1121 (by decide) (by omega) (fun h1121 => ?_) (fun h1121 => ?_)
        · refine n_iinc (lv' := [(0, _), (1, _), (2, _), (3, _), (4, _), (5, _), (6, _), (7, _), (8, _), (9, _), (13, _), (14, _)]) dL_law_1170 10 rfl rfl rfl ?_
          refine n_goto (tgt := 1043) dL_law_1173 (by decide) ?_
          refine n_top (lv' := [(0, _), (1, _), (2, _), (3, _), (4, _), (5, _), (6, _), (7, _), (8, _), (9, _), (13, _)]) 14 rfl ?_
          exact ih qN
        · exfalso; omega
    have l1 : ∀ k : Nat, k ≤ T + 1 → 1 ≤ k → ∀ {N : NM} {M Nn M' Nn' : MI}, QI R D W T n true N M Nn M' Nn' → n_Run G mtL_law room_1 n_Zl sc [(ro, shX), (rq, shX), (hh, [.inr (0, 64)]), (gg, [.inr (0, 64)]), (ee, [.inr (0, 48)])] 600000 7302250 1053 [(0, mr a), (1, mr ro), (2, mr rq), (3, mr hh), (4, mr gg), (5, mr ee), (6, mi (W : Int)), (7, mi (T : Int)), (8, mi (R : Int)), (9, mi (n : Int)), (13, mi (w : Int)), (14, mi (k : Int))] [] N := by
      refine lpn (T + 1) (fun k hk ih1 => ?_) ?_
      · intro hk1 N M Nn M' Nn' qN
        have ok := qN.2.2.2.1
        have h13 := qN.2.2.1.2.2.1
        have s0 := still_e qN.2.1 ok (w := w) (n := k) (by omega) (by omega)
        have s1 := still_m qN.2.1 ok (w := w) (n := k) (by omega) (by omega)
        have r1 := still_r qN.2.1 ok (w := w) (n := k) (by omega) (by omega)
        refine n_iload dL_law_1053 11 rfl ?_
        refine n_iload dL_law_1055 7 rfl ?_
        refine n_ic_gt (tgt := 1114) dL_law_1057 (by decide) (by omega) (fun h1057 => ?_) (fun h1057 => ?_)
        · exfalso; omega
        · refine n_aload_n dL_law_1060 1 rfl rfl ?_
          refine n_iload dL_law_1061 10 rfl ?_
          refine n_iload dL_law_1063 11 rfl ?_
          refine n_callWi (i := 0) (as := [_, _]) dL_law_1065 lvL_120 rfl rfl ⟨rfl, rfl⟩ hap rfl (x_still qN.1.1 (by omega) (by omega)) (fun _ _ => rfl) rfl rfl rfl ⟨Nat.le_of_ble_eq_true rfl, Nat.le_of_ble_eq_true rfl⟩ (fun z1065 N1065 hq1065 ho1065 => ?_)
          obtain ⟨e1065, c1065⟩ := hq1065
          rw [s0.1] at c1065
          have qN1065 := qN.o c1065 (HN.rf _) ho1065
          refine n_aload_n dL_law_1068 2 rfl rfl ?_
          refine n_iload dL_law_1069 10 rfl ?_
          refine n_iload dL_law_1071 11 rfl ?_
          refine n_callWi (i := 1) (as := [_, _]) dL_law_1073 lvL_120 rfl rfl ⟨rfl, rfl⟩ hap rfl (x_still qN1065.1.2 (by omega) (by omega)) (fun _ _ => rfl) rfl rfl rfl ⟨Nat.le_of_ble_eq_true rfl, Nat.le_of_ble_eq_true rfl⟩ (fun z1073 N1073 hq1073 ho1073 => ?_)
          obtain ⟨e1073, c1073⟩ := hq1073
          have qN1073 := qN1065.q c1073 (still_v _ _) ho1073
          refine n_neF (tgt := 1106) dL_law_1076 (by decide) (by rw [e1065, e1073]; exact s1.symm) ?_
          refine n_iload dL_law_1079 11 rfl ?_
          refine n_iconst dL_law_1081 ?_
          refine n_ic_le (tgt := 1108) dL_law_1082 (by decide) (by omega) (fun h1082 => ?_) (fun h1082 => ?_)
          · refine n_iinc (lv' := [(0, _), (1, _), (2, _), (3, _), (4, _), (5, _), (6, _), (7, _), (8, _), (9, _), (13, _), (14, _)]) dL_law_1108 11 rfl rfl rfl ?_
            refine n_goto (tgt := 1053) dL_law_1111 (by decide) ?_
            exact ih1 (by omega) qN1073
          · refine n_aload_n dL_law_1085 1 rfl rfl ?_
            refine n_iload dL_law_1086 10 rfl ?_
            refine n_iload dL_law_1088 11 rfl ?_
            refine n_callWi (i := 0) (as := [_, _]) dL_law_1090 lvL_120 rfl rfl ⟨rfl, rfl⟩ hap rfl (x_still qN1073.1.1 (by omega) (by omega)) (fun _ _ => rfl) rfl rfl rfl ⟨Nat.le_of_ble_eq_true rfl, Nat.le_of_ble_eq_true rfl⟩ (fun z1090 N1090 hq1090 ho1090 => ?_)
            obtain ⟨e1090, c1090⟩ := hq1090
            rw [s0.1] at c1090
            have qN1090 := qN1073.o c1090 (HN.rf _) ho1090
            refine n_aload_n dL_law_1093 1 rfl rfl ?_
            refine n_iload dL_law_1094 10 rfl ?_
            refine n_iload dL_law_1096 11 rfl ?_
            refine n_iconst dL_law_1098 ?_
            refine n_isub dL_law_1099 ?_
            rw [show (k : Int) - 1 = ((k - 1 : Nat) : Int) by omega]
            refine n_callWi (i := 0) (as := [_, _]) dL_law_1100 lvL_120 rfl rfl ⟨rfl, rfl⟩ hap rfl (x_still qN1090.1.1 (by omega) (by omega)) (fun _ _ => rfl) rfl rfl rfl ⟨Nat.le_of_ble_eq_true rfl, Nat.le_of_ble_eq_true rfl⟩ (fun z1100 N1100 hq1100 ho1100 => ?_)
            obtain ⟨e1100, c1100⟩ := hq1100
            have qN1100 := qN1090.o c1100 (still_v _ _) ho1100
            have r2 := still_r qN.2.1 ok (w := w) (n := k - 1) (by omega) (by omega)
            refine n_ic_le (tgt := 1108) dL_law_1103 (by decide) (by rw [e1090, e1100]; omega) (fun h1103 => ?_) (fun h1103 => ?_)
            · refine n_iinc (lv' := [(0, _), (1, _), (2, _), (3, _), (4, _), (5, _), (6, _), (7, _), (8, _), (9, _), (13, _), (14, _)]) dL_law_1108 11 rfl rfl rfl ?_
              refine n_goto (tgt := 1053) dL_law_1111 (by decide) ?_
              exact ih1 (by omega) qN1100
            · exfalso
              have := still_le qN.2.1 ok (w := w) (n := k - 1) (by omega) (by omega)
              rw [show k - 1 + 1 = k by omega, ← e1090, ← e1100] at this
              omega
      · intro hk1 N M Nn M' Nn' qN
        refine n_iload dL_law_1053 11 rfl ?_
        refine n_iload dL_law_1055 7 rfl ?_
        refine n_ic_gt (tgt := 1114) dL_law_1057 (by decide) (by omega) (fun h1057 => ?_) (fun h1057 => ?_)
        · refine n_iconst dL_law_1114 ?_
          refine n_istore (lv' := [(0, _), (1, _), (2, _), (3, _), (4, _), (5, _), (6, _), (7, _), (8, _), (9, _), (13, _), (14, _)]) dL_law_1115 rfl rfl ?_
          exact l2 0 (Nat.zero_le _) qN
        · exfalso; omega
    intro N M Nn M' Nn' qN
    refine n_iload dL_law_1043 10 rfl ?_
    refine n_iload dL_law_1045 6 rfl ?_
    refine n_ic_ge (tgt := 1176) dL_law_1047 (by decide) (by omega) (fun h1047 => ?_) (fun h1047 => ?_)
    · exfalso; omega
    · refine n_iconst dL_law_1050 ?_
      refine n_istore (lv' := [(0, _), (1, _), (2, _), (3, _), (4, _), (5, _), (6, _), (7, _), (8, _), (9, _), (13, _), (14, _)]) dL_law_1051 rfl rfl ?_
      exact l1 1 (by omega) (by omega) qN
  · intro N M Nn M' Nn' qN
    refine n_iload dL_law_1043 10 rfl ?_
    refine n_iload dL_law_1045 6 rfl ?_
    refine n_ic_ge (tgt := 1176) dL_law_1047 (by decide) (by omega) (fun h1047 => ?_) (fun h1047 => ?_)
    · refine n_iconst dL_law_1176 ?_
      refine n_istore (lv' := [(0, _), (1, _), (2, _), (3, _), (4, _), (5, _), (6, _), (7, _), (8, _), (9, _), (13, _)]) dL_law_1177 rfl rfl ?_
      exact lw_1179 hap hB 0 (Nat.zero_le _) qN
    · exfalso; omega
theorem lw_976 (hap : n_ap [(ro, shX), (rq, shX), (hh, [.inr (0, 64)]), (gg, [.inr (0, 64)]), (ee, [.inr (0, 48)])]) (hB : 2 ≤ R ∧ R ≤ 5 ∧ 1 ≤ D ∧ D ≤ 6 ∧ 1 ≤ W ∧ W ≤ 3 ∧ 1 ≤ T ∧ T ≤ 5 ∧ n ≤ 9) : ∀ d : Nat, d ≤ D → ∀ {N : NM} {M Nn M' Nn' : MI}, QI R D W T n true N M Nn M' Nn' → n_Run G mtL_law room_1 n_Zl sc [(ro, shX), (rq, shX), (hh, [.inr (0, 64)]), (gg, [.inr (0, 64)]), (ee, [.inr (0, 48)])] 600000 7302250 976 [(0, mr a), (1, mr ro), (2, mr rq), (3, mr hh), (4, mr gg), (5, mr ee), (6, mi (W : Int)), (7, mi (T : Int)), (8, mi (R : Int)), (9, mi (n : Int)), (13, mi (d : Int))] [] N := by
  refine lpn D (fun d hd ih => ?_) ?_
  · intro N M Nn M' Nn' qN
    have ok := qN.2.2.2.1
    have h12 := qN.2.2.1.2.1
    have p1 := passes_m qN.2.1 ok (d := d) (by omega)
    have p2 := passes_r qN.2.1 ok (d := d) (by omega)
    refine n_iload dL_law_976 10 rfl ?_
    refine n_aload_n dL_law_978 3 rfl rfl ?_
    refine n_iconst dL_law_979 ?_
    refine n_ialdv (i := 2) (n := 64) dL_law_980 rfl (by omega) qN.2.2.2.2 ?_
    refine n_ic_ge (tgt := 1040) dL_law_981 (by decide) (by omega) (fun h981 => ?_) (fun h981 => ?_)
    · exfalso; omega
    · refine n_aload_n dL_law_984 1 rfl rfl ?_
      refine n_iload dL_law_985 10 rfl ?_
      refine n_callWi (i := 0) (as := [_]) dL_law_987 lvL_117 rfl rfl ⟨rfl, rfl⟩ hap rfl (x_passes qN.1.1 (by omega)) (fun _ _ => rfl) rfl rfl rfl ⟨Nat.le_of_ble_eq_true rfl, Nat.le_of_ble_eq_true rfl⟩ (fun z987 N987 hq987 ho987 => ?_)
      obtain ⟨e987, c987⟩ := hq987
      have qN987 := qN.o c987 (passes_v _) ho987
      refine n_istore (lv' := [(0, _), (1, _), (2, _), (3, _), (4, _), (5, _), (6, _), (7, _), (8, _), (9, _), (13, _), (14, _)]) dL_law_990 rfl rfl ?_
      refine n_aload_n dL_law_992 1 rfl rfl ?_
      refine n_callGi (i := 0) (as := []) dL_law_993 lvL_93 rfl rfl ⟨rfl, rfl⟩ hap rfl (x_asked qN987.1.1) (fun _ _ => rfl) rfl rfl rfl ⟨Nat.le_of_ble_eq_true rfl, Nat.le_of_ble_eq_true rfl⟩ ?_
      refine n_istore (lv' := [(0, _), (1, _), (2, _), (3, _), (4, _), (5, _), (6, _), (7, _), (8, _), (9, _), (13, _), (14, _), (15, _)]) dL_law_996 rfl rfl ?_
      refine n_aload_n dL_law_998 2 rfl rfl ?_
      refine n_iload dL_law_999 10 rfl ?_
      refine n_callWi (i := 1) (as := [_]) dL_law_1001 lvL_117 rfl rfl ⟨rfl, rfl⟩ hap rfl (x_passes qN987.1.2 (by omega)) (fun _ _ => rfl) rfl rfl rfl ⟨Nat.le_of_ble_eq_true rfl, Nat.le_of_ble_eq_true rfl⟩ (fun z1001 N1001 hq1001 ho1001 => ?_)
      obtain ⟨e1001, c1001⟩ := hq1001
      have qN1001 := qN987.q c1001 (passes_v _) ho1001
      refine n_iload dL_law_1004 11 rfl ?_
      refine n_neF (tgt := 1032) dL_law_1006 (by decide) (by rw [e1001, e987]; exact p1.1) ?_
      refine n_aload_n dL_law_1009 2 rfl rfl ?_
      refine n_callGi (i := 1) (as := []) dL_law_1010 lvL_93 rfl rfl ⟨rfl, rfl⟩ hap rfl (x_asked qN1001.1.2) (fun _ _ => rfl) rfl rfl rfl ⟨Nat.le_of_ble_eq_true rfl, Nat.le_of_ble_eq_true rfl⟩ ?_
      refine n_iload dL_law_1013 12 rfl ?_
      refine n_neF (tgt := 1032) dL_law_1015 (by decide) (p1.2.1) ?_
      have h14 := qN.2.2.1.2.2.2.1
      rw [← e987] at p1 p2
      refine n_iload dL_law_1018 12 rfl ?_
      refine n_iload dL_law_1020 11 rfl ?_
      refine n_ic_gt (tgt := 1032) dL_law_1022 (by decide) (by omega) (fun h1022 => ?_) (fun h1022 => ?_)
      · exfalso; omega
      · refine n_iload dL_law_1025 11 rfl ?_
        refine n_iload dL_law_1027 7 rfl ?_
        refine n_ic_le (tgt := 1034) dL_law_1029 (by decide) (by omega) (fun h1029 => ?_) (fun h1029 => ?_)
        · refine n_iinc (lv' := [(0, _), (1, _), (2, _), (3, _), (4, _), (5, _), (6, _), (7, _), (8, _), (9, _), (13, _), (14, _), (15, _)]) dL_law_1034 10 rfl rfl rfl ?_
          refine n_goto (tgt := 976) dL_law_1037 (by decide) ?_
          refine n_top (lv' := [(0, _), (1, _), (2, _), (3, _), (4, _), (5, _), (6, _), (7, _), (8, _), (9, _), (13, _)]) 14 rfl ?_
          exact ih qN1001
        · exfalso; omega
  · intro N M Nn M' Nn' qN
    refine n_iload dL_law_976 10 rfl ?_
    refine n_aload_n dL_law_978 3 rfl rfl ?_
    refine n_iconst dL_law_979 ?_
    refine n_ialdv (i := 2) (n := 64) dL_law_980 rfl (by omega) qN.2.2.2.2 ?_
    refine n_ic_ge (tgt := 1040) dL_law_981 (by decide) (by omega) (fun h981 => ?_) (fun h981 => ?_)
    · refine n_iconst dL_law_1040 ?_
      refine n_istore (lv' := [(0, _), (1, _), (2, _), (3, _), (4, _), (5, _), (6, _), (7, _), (8, _), (9, _), (13, _)]) dL_law_1041 rfl rfl ?_
      exact lw_1043 hap hB 0 (Nat.zero_le _) qN
    · exfalso; omega
theorem lw_710 (hap : n_ap [(ro, shX), (rq, shX), (hh, [.inr (0, 64)]), (gg, [.inr (0, 64)]), (ee, [.inr (0, 48)])]) (hB : 2 ≤ R ∧ R ≤ 5 ∧ 1 ≤ D ∧ D ≤ 6 ∧ 1 ≤ W ∧ W ≤ 3 ∧ 1 ≤ T ∧ T ≤ 5 ∧ n ≤ 9) : ∀ t : Nat, t ≤ T + 1 → ∀ {N : NM} {M Nn M' Nn' : MI}, QI R D W T n true N M Nn M' Nn' → n_Run G mtL_law room_1 n_Zl sc [(ro, shX), (rq, shX), (hh, [.inr (0, 64)]), (gg, [.inr (0, 64)]), (ee, [.inr (0, 48)])] 600000 7302250 710 [(0, mr a), (1, mr ro), (2, mr rq), (3, mr hh), (4, mr gg), (5, mr ee), (6, mi (W : Int)), (7, mi (T : Int)), (8, mi (R : Int)), (9, mi (n : Int)), (13, mi (t : Int))] [] N := by
  refine lpn (T + 1) (fun t ht ih => ?_) ?_
  · have l2 : ∀ w : Nat, w ≤ W → ∀ {N : NM} {M Nn M' Nn' : MI}, QI R D W T n true N M Nn M' Nn' → n_Run G mtL_law room_1 n_Zl sc [(ro, shX), (rq, shX), (hh, [.inr (0, 64)]), (gg, [.inr (0, 64)]), (ee, [.inr (0, 48)])] 600000 7302250 840 [(0, mr a), (1, mr ro), (2, mr rq), (3, mr hh), (4, mr gg), (5, mr ee), (6, mi (W : Int)), (7, mi (T : Int)), (8, mi (R : Int)), (9, mi (n : Int)), (13, mi (t : Int)), (14, mi (w : Int))] [] N := by
      refine lpn W (fun w hw ih2 => ?_) ?_
      · have l3 : ∀ {N : NM} {M Nn M' Nn' : MI}, QI R D W T n true N M Nn M' Nn' → n_Run G mtL_law room_1 n_Zl sc [(ro, shX), (rq, shX), (hh, [.inr (0, 64)]), (gg, [.inr (0, 64)]), (ee, [.inr (0, 48)])] 600000 7302250 910 [(0, mr a), (1, mr ro), (2, mr rq), (3, mr hh), (4, mr gg), (5, mr ee), (6, mi (W : Int)), (7, mi (T : Int)), (8, mi (R : Int)), (9, mi (n : Int)), (13, mi (t : Int)), (14, mi (w : Int))] [] N := by
          intro N M Nn M' Nn' qN
          have ok := qN.2.2.2.1
          have bd := qN.bd (by omega) (by omega) (by omega)
          have h13 := qN.2.2.1.2.2.1
          have h14 := qN.2.2.1.2.2.2.1
          have a1 := likely_m qN.2.1 bd ok (w := w) (t := t) (u := T - t) (by omega) (by omega)
          have r1 := likely_r qN.2.1 bd ok (w := w) (t := t) (by omega) (by omega)
          have r2 := likely_r qN.2.1.sy (bd.m qN.2.1) (qN.2.1.ok.trans ok) (w := w) (t := T - t) (by rw [qN.2.1.2.2.1.2.2.1]; omega) (by rw [qN.2.1.2.2.1.2.2.2.1]; omega)
          refine n_aload_n dL_law_910 1 rfl rfl ?_
          refine n_iload dL_law_911 11 rfl ?_
          refine n_iload dL_law_913 10 rfl ?_
          refine n_callWi (i := 0) (as := [_, _]) dL_law_915 lvL_114 rfl rfl ⟨rfl, rfl⟩ hap rfl (x_likely qN.1.1 (by omega) (by omega)) (fun _ _ => rfl) rfl rfl rfl ⟨Nat.le_of_ble_eq_true rfl, Nat.le_of_ble_eq_true rfl⟩ (fun z915 N915 hq915 ho915 => ?_)
          obtain ⟨e915, c915⟩ := hq915
          have qN915 := qN.o c915 (likely_v _ _) ho915
          rw [← e915] at r1
          refine n_if_lt (tgt := 959) dL_law_918 (by decide) (by omega) (fun h918 => ?_) (fun h918 => ?_)
          · exfalso; omega
          · refine n_aload_n dL_law_921 2 rfl rfl ?_
            refine n_iload dL_law_922 11 rfl ?_
            refine n_iload dL_law_924 7 rfl ?_
            refine n_iload dL_law_926 10 rfl ?_
            refine n_isub dL_law_928 ?_
            rw [show (T : Int) - (t : Int) = ((T - t : Nat) : Int) by omega]
            refine n_callWi (i := 1) (as := [_, _]) dL_law_929 lvL_114 rfl rfl ⟨rfl, rfl⟩ hap rfl (x_likely qN915.1.2 (by omega) (by omega)) (fun _ _ => rfl) rfl rfl rfl ⟨Nat.le_of_ble_eq_true rfl, Nat.le_of_ble_eq_true rfl⟩ (fun z929 N929 hq929 ho929 => ?_)
            obtain ⟨e929, c929⟩ := hq929
            have qN929 := qN915.q c929 (likely_v _ _) ho929
            rw [← e929] at r2
            refine n_if_lt (tgt := 959) dL_law_932 (by decide) (by omega) (fun h932 => ?_) (fun h932 => ?_)
            · exfalso; omega
            · refine n_aload_n dL_law_935 1 rfl rfl ?_
              refine n_callGl (i := 0) (as := []) dL_law_936 lvL_105 rfl rfl ⟨rfl, rfl⟩ hap rfl (x_upper qN929.1.1) (fun _ _ => rfl) rfl rfl rfl ⟨Nat.le_of_ble_eq_true rfl, Nat.le_of_ble_eq_true rfl⟩ ?_
              refine n_aload_n dL_law_939 2 rfl rfl ?_
              refine n_callGl (i := 1) (as := []) dL_law_940 lvL_105 rfl rfl ⟨rfl, rfl⟩ hap rfl (x_upper qN929.1.2) (fun _ _ => rfl) rfl rfl rfl ⟨Nat.le_of_ble_eq_true rfl, Nat.le_of_ble_eq_true rfl⟩ ?_
              refine n_lneF (tgt := 959) dL_law_943 dL_law_944 (by decide) ((a1 _ _).2.2.1.symm) ?_
              refine n_aload_n dL_law_947 1 rfl rfl ?_
              refine n_callGl (i := 0) (as := []) dL_law_948 lvL_108 rfl rfl ⟨rfl, rfl⟩ hap rfl (x_lower qN929.1.1) (fun _ _ => rfl) rfl rfl rfl ⟨Nat.le_of_ble_eq_true rfl, Nat.le_of_ble_eq_true rfl⟩ ?_
              refine n_aload_n dL_law_951 2 rfl rfl ?_
              refine n_callGl (i := 1) (as := []) dL_law_952 lvL_108 rfl rfl ⟨rfl, rfl⟩ hap rfl (x_lower qN929.1.2) (fun _ _ => rfl) rfl rfl rfl ⟨Nat.le_of_ble_eq_true rfl, Nat.le_of_ble_eq_true rfl⟩ ?_
              refine n_leqT (tgt := 961) dL_law_955 dL_law_956 (by decide) ((a1 _ _).2.2.2.symm) ?_
              refine n_iinc (lv' := [(0, _), (1, _), (2, _), (3, _), (4, _), (5, _), (6, _), (7, _), (8, _), (9, _), (13, _), (14, _)]) dL_law_961 11 rfl rfl rfl ?_
              refine n_goto (tgt := 840) dL_law_964 (by decide) ?_
              exact ih2 qN929
        intro N M Nn M' Nn' qN
        have ok := qN.2.2.2.1
        have h11 := qN.2.2.1.1
        have h13 := qN.2.2.1.2.2.1
        have h14 := qN.2.2.1.2.2.2.1
        refine n_iload dL_law_840 11 rfl ?_
        refine n_iload dL_law_842 6 rfl ?_
        refine n_ic_ge (tgt := 967) dL_law_844 (by decide) (by omega) (fun h844 => ?_) (fun h844 => ?_)
        · exfalso; omega
        · refine n_aload_n dL_law_847 1 rfl rfl ?_
          refine n_iload dL_law_848 11 rfl ?_
          refine n_iload dL_law_850 10 rfl ?_
          refine n_callWi (i := 0) (as := [_, _]) dL_law_852 lvL_111 rfl rfl ⟨rfl, rfl⟩ hap rfl (x_where qN.1.1 (by omega) (by omega)) (fun _ _ => rfl) rfl rfl rfl ⟨Nat.le_of_ble_eq_true rfl, Nat.le_of_ble_eq_true rfl⟩ (fun z852 N852 hq852 ho852 => ?_)
          obtain ⟨e852, c852⟩ := hq852
          have qN852 := qN.o c852 (where_v _ _) ho852
          refine n_istore (lv' := [(0, _), (1, _), (2, _), (3, _), (4, _), (5, _), (6, _), (7, _), (8, _), (9, _), (13, _), (14, _), (15, _)]) dL_law_855 rfl rfl ?_
          refine n_aload_n dL_law_857 2 rfl rfl ?_
          refine n_iload dL_law_858 11 rfl ?_
          refine n_iload dL_law_860 7 rfl ?_
          refine n_iload dL_law_862 10 rfl ?_
          refine n_isub dL_law_864 ?_
          rw [show (T : Int) - (t : Int) = ((T - t : Nat) : Int) by omega]
          refine n_callWi (i := 1) (as := [_, _]) dL_law_865 lvL_111 rfl rfl ⟨rfl, rfl⟩ hap rfl (x_where qN852.1.2 (by omega) (by omega)) (fun _ _ => rfl) rfl rfl rfl ⟨Nat.le_of_ble_eq_true rfl, Nat.le_of_ble_eq_true rfl⟩ (fun z865 N865 hq865 ho865 => ?_)
          obtain ⟨e865, c865⟩ := hq865
          have qN865 := qN852.q c865 (where_v _ _) ho865
          refine n_istore (lv' := [(0, _), (1, _), (2, _), (3, _), (4, _), (5, _), (6, _), (7, _), (8, _), (9, _), (13, _), (14, _), (15, _), (16, _)]) dL_law_868 rfl rfl ?_
          refine n_iconst dL_law_870 ?_
          refine n_istore (lv' := [(0, _), (1, _), (2, _), (3, _), (4, _), (5, _), (6, _), (7, _), (8, _), (9, _), (13, _), (14, _), (15, _), (16, _), (17, _)]) dL_law_871 rfl rfl ?_
          have lb : ∀ r : Nat, r ≤ R → n_Run G mtL_law room_1 n_Zl sc [(ro, shX), (rq, shX), (hh, [.inr (0, 64)]), (gg, [.inr (0, 64)]), (ee, [.inr (0, 48)])] 600000 7302250 873 [(0, mr a), (1, mr ro), (2, mr rq), (3, mr hh), (4, mr gg), (5, mr ee), (6, mi (W : Int)), (7, mi (T : Int)), (8, mi (R : Int)), (9, mi (n : Int)), (13, mi (t : Int)), (14, mi (w : Int)), (15, mi z852), (16, mi z865), (17, mi (r : Int))] [] N865 := by
            refine lpn R (fun r hr ih3 => ?_) ?_
            · have a1 := where_m qN.2.1 ok (w := w) (t := t) (u := T - t) (by omega) (by omega) (r := r) (q := R - 1 - r) (by omega)
              refine n_iload dL_law_873 14 rfl ?_
              refine n_iload dL_law_875 8 rfl ?_
              refine n_ic_ge (tgt := 910) dL_law_877 (by decide) (by omega) (fun h877 => ?_) (fun h877 => ?_)
              · exfalso; omega
              · refine n_iload dL_law_880 12 rfl ?_
                refine n_iload dL_law_882 14 rfl ?_
                refine n_ishr dL_law_884 ?_
                refine n_iconst dL_law_885 ?_
                refine n_iand dL_law_886 ?_
                refine n_iload dL_law_887 13 rfl ?_
                refine n_iload dL_law_889 8 rfl ?_
                refine n_iconst dL_law_891 ?_
                refine n_isub dL_law_892 ?_
                refine n_iload dL_law_893 14 rfl ?_
                refine n_isub dL_law_895 ?_
                refine n_ishr dL_law_896 ?_
                refine n_iconst dL_law_897 ?_
                refine n_iand dL_law_898 ?_
                refine n_eqT (tgt := 904) dL_law_899 (by decide) (by rw [e852, e865, show (R : Int) - 1 - (r : Int) = ((R - 1 - r : Nat) : Int) by omega, z_bit (by omega), z_bit (by omega), Int.toNat_natCast, Int.toNat_natCast, a1]) ?_
                refine n_iinc (lv' := [(0, _), (1, _), (2, _), (3, _), (4, _), (5, _), (6, _), (7, _), (8, _), (9, _), (13, _), (14, _), (15, _), (16, _), (17, _)]) dL_law_904 14 rfl rfl rfl ?_
                refine n_goto (tgt := 873) dL_law_907 (by decide) ?_
                exact ih3
            · refine n_iload dL_law_873 14 rfl ?_
              refine n_iload dL_law_875 8 rfl ?_
              refine n_ic_ge (tgt := 910) dL_law_877 (by decide) (by omega) (fun h877 => ?_) (fun h877 => ?_)
              · refine n_top (lv' := [(0, _), (1, _), (2, _), (3, _), (4, _), (5, _), (6, _), (7, _), (8, _), (9, _), (13, _), (14, _)]) 15 rfl ?_
                exact l3 qN865
              · exfalso; omega
          exact lb 0 (Nat.zero_le _)
      · intro N M Nn M' Nn' qN
        refine n_iload dL_law_840 11 rfl ?_
        refine n_iload dL_law_842 6 rfl ?_
        refine n_ic_ge (tgt := 967) dL_law_844 (by decide) (by omega) (fun h844 => ?_) (fun h844 => ?_)
        · refine n_iinc (lv' := [(0, _), (1, _), (2, _), (3, _), (4, _), (5, _), (6, _), (7, _), (8, _), (9, _), (13, _), (14, _)]) dL_law_967 10 rfl rfl rfl ?_
          refine n_goto (tgt := 710) dL_law_970 (by decide) ?_
          refine n_top (lv' := [(0, _), (1, _), (2, _), (3, _), (4, _), (5, _), (6, _), (7, _), (8, _), (9, _), (13, _)]) 14 rfl ?_
          exact ih qN
        · exfalso; omega
    have l1 : ∀ r : Nat, r ≤ R → ∀ {N : NM} {M Nn M' Nn' : MI}, QI R D W T n true N M Nn M' Nn' → n_Run G mtL_law room_1 n_Zl sc [(ro, shX), (rq, shX), (hh, [.inr (0, 64)]), (gg, [.inr (0, 64)]), (ee, [.inr (0, 48)])] 600000 7302250 720 [(0, mr a), (1, mr ro), (2, mr rq), (3, mr hh), (4, mr gg), (5, mr ee), (6, mi (W : Int)), (7, mi (T : Int)), (8, mi (R : Int)), (9, mi (n : Int)), (13, mi (t : Int)), (14, mi (r : Int))] [] N := by
      refine lpn R (fun r hr ih1 => ?_) ?_
      · intro N M Nn M' Nn' qN
        have ok := qN.2.2.2.1
        have h11 := qN.2.2.1.1
        have h14 := qN.2.2.1.2.2.2.1
        have a1 := rooms_m qN.2.1 ok (r := r) (q := R - 1 - r) (t := t) (u := T - t) (by omega) (by omega)
        refine n_iload dL_law_720 11 rfl ?_
        refine n_iload dL_law_722 8 rfl ?_
        refine n_ic_ge (tgt := 837) dL_law_724 (by decide) (by omega) (fun h724 => ?_) (fun h724 => ?_)
        · exfalso; omega
        · refine n_aload_n dL_law_727 1 rfl rfl ?_
          refine n_iload dL_law_728 11 rfl ?_
          refine n_iload dL_law_730 10 rfl ?_
          refine n_callWi (i := 0) (as := [_, _]) dL_law_732 lvL_99 rfl rfl ⟨rfl, rfl⟩ hap rfl (x_rooms qN.1.1 (by omega) (by omega)) (fun _ _ => rfl) rfl rfl rfl ⟨Nat.le_of_ble_eq_true rfl, Nat.le_of_ble_eq_true rfl⟩ (fun z732 N732 hq732 ho732 => ?_)
          obtain ⟨e732, c732⟩ := hq732
          have qN732 := qN.o c732 (rooms_v _ _) ho732
          refine n_istore (lv' := [(0, _), (1, _), (2, _), (3, _), (4, _), (5, _), (6, _), (7, _), (8, _), (9, _), (13, _), (14, _), (15, _)]) dL_law_735 rfl rfl ?_
          refine n_aload_n dL_law_737 1 rfl rfl ?_
          refine n_callGi (i := 0) (as := []) dL_law_738 lvL_93 rfl rfl ⟨rfl, rfl⟩ hap rfl (x_asked qN732.1.1) (fun _ _ => rfl) rfl rfl rfl ⟨Nat.le_of_ble_eq_true rfl, Nat.le_of_ble_eq_true rfl⟩ ?_
          refine n_istore (lv' := [(0, _), (1, _), (2, _), (3, _), (4, _), (5, _), (6, _), (7, _), (8, _), (9, _), (13, _), (14, _), (15, _), (16, _)]) dL_law_741 rfl rfl ?_
          refine n_aload_n dL_law_743 2 rfl rfl ?_
          refine n_iload dL_law_744 8 rfl ?_
          refine n_iconst dL_law_746 ?_
          refine n_isub dL_law_747 ?_
          refine n_iload dL_law_748 11 rfl ?_
          refine n_isub dL_law_750 ?_
          refine n_iload dL_law_751 7 rfl ?_
          refine n_iload dL_law_753 10 rfl ?_
          refine n_isub dL_law_755 ?_
          rw [show (R : Int) - 1 - (r : Int) = ((R - 1 - r : Nat) : Int) by omega, show (T : Int) - (t : Int) = ((T - t : Nat) : Int) by omega]
          refine n_callWi (i := 1) (as := [_, _]) dL_law_756 lvL_99 rfl rfl ⟨rfl, rfl⟩ hap rfl (x_rooms qN732.1.2 (by omega) (by omega)) (fun _ _ => rfl) rfl rfl rfl ⟨Nat.le_of_ble_eq_true rfl, Nat.le_of_ble_eq_true rfl⟩ (fun z756 N756 hq756 ho756 => ?_)
          obtain ⟨e756, c756⟩ := hq756
          have qN756 := qN732.q c756 (rooms_v _ _) ho756
          refine n_iload dL_law_759 12 rfl ?_
          refine n_neF (tgt := 829) dL_law_761 (by decide) (by rw [e756, e732]; exact a1.1) ?_
          refine n_aload_n dL_law_764 2 rfl rfl ?_
          refine n_callGi (i := 1) (as := []) dL_law_765 lvL_93 rfl rfl ⟨rfl, rfl⟩ hap rfl (x_asked qN756.1.2) (fun _ _ => rfl) rfl rfl rfl ⟨Nat.le_of_ble_eq_true rfl, Nat.le_of_ble_eq_true rfl⟩ ?_
          refine n_iload dL_law_768 13 rfl ?_
          refine n_neF (tgt := 829) dL_law_770 (by decide) (a1.2) ?_
          have h11' := qN756.2.2.1.1
          have h14' := qN756.2.2.1.2.2.2.1
          have a2 := chance_m qN756.2.1 (qN756.bd (by omega) (by omega) (by omega)) qN756.2.2.2.1 (r := r) (q := R - 1 - r) (t := t) (u := T - t) (by omega) (by omega)
          refine n_aload_n dL_law_773 1 rfl rfl ?_
          refine n_iload dL_law_774 11 rfl ?_
          refine n_iload dL_law_776 10 rfl ?_
          refine n_callWi (i := 0) (as := [_, _]) dL_law_778 lvL_102 rfl rfl ⟨rfl, rfl⟩ hap rfl (x_chance qN756.1.1 (by omega) (by omega)) (fun _ _ => rfl) rfl rfl rfl ⟨Nat.le_of_ble_eq_true rfl, Nat.le_of_ble_eq_true rfl⟩ (fun z778 N778 hq778 ho778 => ?_)
          obtain ⟨e778, c778⟩ := hq778
          have qN778 := qN756.o c778 (chance_v _ _) ho778
          refine n_iconst dL_law_781 ?_
          refine n_neF (tgt := 829) dL_law_782 (by decide) (by rw [e778]; exact (a2 (fun _ _ => 0) (fun _ _ => 0)).1) ?_
          refine n_aload_n dL_law_785 2 rfl rfl ?_
          refine n_iload dL_law_786 8 rfl ?_
          refine n_iconst dL_law_788 ?_
          refine n_isub dL_law_789 ?_
          refine n_iload dL_law_790 11 rfl ?_
          refine n_isub dL_law_792 ?_
          refine n_iload dL_law_793 7 rfl ?_
          refine n_iload dL_law_795 10 rfl ?_
          refine n_isub dL_law_797 ?_
          rw [show (R : Int) - 1 - (r : Int) = ((R - 1 - r : Nat) : Int) by omega, show (T : Int) - (t : Int) = ((T - t : Nat) : Int) by omega]
          refine n_callWi (i := 1) (as := [_, _]) dL_law_798 lvL_102 rfl rfl ⟨rfl, rfl⟩ hap rfl (x_chance qN778.1.2 (by omega) (by omega)) (fun _ _ => rfl) rfl rfl rfl ⟨Nat.le_of_ble_eq_true rfl, Nat.le_of_ble_eq_true rfl⟩ (fun z798 N798 hq798 ho798 => ?_)
          obtain ⟨e798, c798⟩ := hq798
          have qN798 := qN778.q c798 (chance_v _ _) ho798
          refine n_iconst dL_law_801 ?_
          refine n_neF (tgt := 829) dL_law_802 (by decide) (by rw [e798]; exact (a2 (fun _ _ => 0) (fun _ _ => 0)).2.1) ?_
          refine n_aload_n dL_law_805 1 rfl rfl ?_
          refine n_callGl (i := 0) (as := []) dL_law_806 lvL_105 rfl rfl ⟨rfl, rfl⟩ hap rfl (x_upper qN798.1.1) (fun _ _ => rfl) rfl rfl rfl ⟨Nat.le_of_ble_eq_true rfl, Nat.le_of_ble_eq_true rfl⟩ ?_
          refine n_aload_n dL_law_809 2 rfl rfl ?_
          refine n_callGl (i := 1) (as := []) dL_law_810 lvL_105 rfl rfl ⟨rfl, rfl⟩ hap rfl (x_upper qN798.1.2) (fun _ _ => rfl) rfl rfl rfl ⟨Nat.le_of_ble_eq_true rfl, Nat.le_of_ble_eq_true rfl⟩ ?_
          refine n_lneF (tgt := 829) dL_law_813 dL_law_814 (by decide) ((a2 _ _).2.2.1.symm) ?_
          refine n_aload_n dL_law_817 1 rfl rfl ?_
          refine n_callGl (i := 0) (as := []) dL_law_818 lvL_108 rfl rfl ⟨rfl, rfl⟩ hap rfl (x_lower qN798.1.1) (fun _ _ => rfl) rfl rfl rfl ⟨Nat.le_of_ble_eq_true rfl, Nat.le_of_ble_eq_true rfl⟩ ?_
          refine n_aload_n dL_law_821 2 rfl rfl ?_
          refine n_callGl (i := 1) (as := []) dL_law_822 lvL_108 rfl rfl ⟨rfl, rfl⟩ hap rfl (x_lower qN798.1.2) (fun _ _ => rfl) rfl rfl rfl ⟨Nat.le_of_ble_eq_true rfl, Nat.le_of_ble_eq_true rfl⟩ ?_
          refine n_leqT (tgt := 831) dL_law_825 dL_law_826 (by decide) ((a2 _ _).2.2.2.symm) ?_
          refine n_iinc (lv' := [(0, _), (1, _), (2, _), (3, _), (4, _), (5, _), (6, _), (7, _), (8, _), (9, _), (13, _), (14, _), (15, _), (16, _)]) dL_law_831 11 rfl rfl rfl ?_
          refine n_goto (tgt := 720) dL_law_834 (by decide) ?_
          refine n_top (lv' := [(0, _), (1, _), (2, _), (3, _), (4, _), (5, _), (6, _), (7, _), (8, _), (9, _), (13, _), (14, _)]) 15 rfl ?_
          exact ih1 qN798
      · intro N M Nn M' Nn' qN
        refine n_iload dL_law_720 11 rfl ?_
        refine n_iload dL_law_722 8 rfl ?_
        refine n_ic_ge (tgt := 837) dL_law_724 (by decide) (by omega) (fun h724 => ?_) (fun h724 => ?_)
        · refine n_iconst dL_law_837 ?_
          refine n_istore (lv' := [(0, _), (1, _), (2, _), (3, _), (4, _), (5, _), (6, _), (7, _), (8, _), (9, _), (13, _), (14, _)]) dL_law_838 rfl rfl ?_
          exact l2 0 (Nat.zero_le _) qN
        · exfalso; omega
    intro N M Nn M' Nn' qN
    refine n_iload dL_law_710 10 rfl ?_
    refine n_iload dL_law_712 7 rfl ?_
    refine n_ic_gt (tgt := 973) dL_law_714 (by decide) (by omega) (fun h714 => ?_) (fun h714 => ?_)
    · exfalso; omega
    · refine n_iconst dL_law_717 ?_
      refine n_istore (lv' := [(0, _), (1, _), (2, _), (3, _), (4, _), (5, _), (6, _), (7, _), (8, _), (9, _), (13, _), (14, _)]) dL_law_718 rfl rfl ?_
      exact l1 0 (Nat.zero_le _) qN
  · intro N M Nn M' Nn' qN
    refine n_iload dL_law_710 10 rfl ?_
    refine n_iload dL_law_712 7 rfl ?_
    refine n_ic_gt (tgt := 973) dL_law_714 (by decide) (by omega) (fun h714 => ?_) (fun h714 => ?_)
    · refine n_iconst dL_law_973 ?_
      refine n_istore (lv' := [(0, _), (1, _), (2, _), (3, _), (4, _), (5, _), (6, _), (7, _), (8, _), (9, _), (13, _)]) dL_law_974 rfl rfl ?_
      exact lw_976 hap hB 0 (Nat.zero_le _) qN
    · exfalso; omega
end
