set_option maxHeartbeats 4000000 in
set_option maxRecDepth 100000 in
theorem lc_28 {E : zCx} {l : Launch} {D : va_G} {cy : Nat → ClassId} {b x mm : Nat} {r : Nat → Nat} {xs : Nat → Int32} {La Lb : List Nat} {σ : Nat → va_E} {φ : Nat → Nat → Nat → Int32} {ρ : Nat → Nat → Int32} (hE : zOk E l D cy R_law code 4 room_1) (hs : zSc E b 7 xs) (hx : zOR cy La σ φ x) (hm : zModel cy Lb σ mm r) (hm0 : zMo0 φ ρ mm r) (hend : ∀ (L : List Nat) (σ : Nat → va_E) (φ : Nat → Nat → Nat → Int32) (ρ : Nat → Nat → Int32), zW E 1000 64000 L σ φ ρ 1608 [(3, .int 0), (2, .ref mm), (1, .ref x), (0, .ref b)] []) : zW E 800 60000 (La ++ Lb) σ φ ρ 1202 [(3, .int 0), (2, .ref mm), (1, .ref x), (0, .ref b)] [] := by
  obtain ⟨SX, hxT⟩ := hx.at
  refine x_aload_n hE dL_law_1202 rfl 2 rfl ?_
  refine x_aload_n hE dL_law_1203 rfl 3 rfl ?_
  refine x_iload_n hE dL_law_1204 rfl 0 rfl ?_
  refine x_iconst (v := 1) hE dL_law_1205 (by decide) ?_
  refine x_iadd hE dL_law_1206 ?_
  refine x_norm (y := 1) (by decide) ?_
  refine s_ld (iN := 1) hE hs (by decide) (by decide) (by omega) dL_law_1207 ?_
  refine c_iK hE (r_VA (st := []) hE (o_near l D cy La σ φ ρ (xs 1) hx) q1272 q1273 q1274 q113 q1275 hxT rfl ⟨by decide, by decide, pn_X11_near⟩ ⟨Nat.le_of_ble_eq_true rfl, Nat.le_of_ble_eq_true rfl⟩ ⟨Nat.le_of_ble_eq_true rfl, Nat.le_of_ble_eq_true rfl⟩ rfl (Nat.le_of_ble_eq_true rfl) dL_law_1208) (fun r1 u1 e1 => ?_)
  refine x_widen (k' := 900) (n' := 62000) (Nat.le_of_ble_eq_true rfl) (Nat.le_of_ble_eq_true rfl) ?_
  refine x_aload_n hE dL_law_1211 rfl 1 rfl ?_
  refine x_aload_n hE dL_law_1212 rfl 3 rfl ?_
  refine x_iload_n hE dL_law_1213 rfl 0 rfl ?_
  refine x_iconst (v := 1) hE dL_law_1214 (by decide) ?_
  refine x_iadd hE dL_law_1215 ?_
  refine x_norm (y := 1) (by decide) ?_
  refine s_ld (iN := 1) hE hs (by decide) (by decide) (by omega) dL_law_1216 ?_
  refine c_i hE (r_V (st := [.int r1]) hE (m_near l D cy Lb σ φ ρ (xs 1) hm hm0) q2012 q2013 q2014 q124 q2015 hm.1 rfl ⟨by decide, by decide, pn_X12_near⟩ ⟨Nat.le_of_ble_eq_true rfl, Nat.le_of_ble_eq_true rfl⟩ ⟨Nat.le_of_ble_eq_true rfl, Nat.le_of_ble_eq_true rfl⟩ rfl (Nat.le_of_ble_eq_true rfl) dL_law_1217) (fun r2 L2 σ2 φ2 ρ2 e2 => ?_)
  refine x_widen (k' := 1000) (n' := 64000) (Nat.le_of_ble_eq_true rfl) (Nat.le_of_ble_eq_true rfl) ?_
  refine x_icmp_eq (tgt := 1608) hE dL_law_1220 (by decide) (fun c_1220 => ?_) (fun c_1220 => absurd (e1.trans e2.symm) c_1220)
  exact hend _ _ _ _
set_option maxHeartbeats 4000000 in
set_option maxRecDepth 100000 in
theorem lc_29 {E : zCx} {l : Launch} {D : va_G} {cy : Nat → ClassId} {b x mm : Nat} {r : Nat → Nat} {xs : Nat → Int32} {La Lb : List Nat} {σ : Nat → va_E} {φ : Nat → Nat → Nat → Int32} {ρ : Nat → Nat → Int32} (hE : zOk E l D cy R_law code 4 room_1) (hs : zSc E b 7 xs) (hx : zOR cy La σ φ x) (hm : zModel cy Lb σ mm r) (hm0 : zMo0 φ ρ mm r) (hend : ∀ (L : List Nat) (σ : Nat → va_E) (φ : Nat → Nat → Nat → Int32) (ρ : Nat → Nat → Int32), zW E 1000 64000 L σ φ ρ 1608 [(3, .int 0), (2, .ref mm), (1, .ref x), (0, .ref b)] []) : zW E 800 60000 (La ++ Lb) σ φ ρ 1225 [(3, .int 0), (2, .ref mm), (1, .ref x), (0, .ref b)] [] := by
  obtain ⟨SX, hxT⟩ := hx.at
  refine x_aload_n hE dL_law_1225 rfl 2 rfl ?_
  refine c_iK hE (r_VA (st := []) hE (o_thieves l D cy La σ φ ρ  hx) q1280 q1281 q1282 q113 q1283 hxT rfl ⟨by decide, by decide, pn_X11_thieves⟩ ⟨Nat.le_of_ble_eq_true rfl, Nat.le_of_ble_eq_true rfl⟩ ⟨Nat.le_of_ble_eq_true rfl, Nat.le_of_ble_eq_true rfl⟩ rfl (Nat.le_of_ble_eq_true rfl) dL_law_1226) (fun r1 u1 e1 => ?_)
  refine x_widen (k' := 900) (n' := 62000) (Nat.le_of_ble_eq_true rfl) (Nat.le_of_ble_eq_true rfl) ?_
  refine x_aload_n hE dL_law_1229 rfl 1 rfl ?_
  refine c_i hE (r_V (st := [.int r1]) hE (m_thieves l D cy Lb σ φ ρ  hm hm0) q2020 q2021 q2022 q124 q2023 hm.1 rfl ⟨by decide, by decide, pn_X12_thieves⟩ ⟨Nat.le_of_ble_eq_true rfl, Nat.le_of_ble_eq_true rfl⟩ ⟨Nat.le_of_ble_eq_true rfl, Nat.le_of_ble_eq_true rfl⟩ rfl (Nat.le_of_ble_eq_true rfl) dL_law_1230) (fun r2 L2 σ2 φ2 ρ2 e2 => ?_)
  refine x_widen (k' := 1000) (n' := 64000) (Nat.le_of_ble_eq_true rfl) (Nat.le_of_ble_eq_true rfl) ?_
  refine x_icmp_eq (tgt := 1608) hE dL_law_1233 (by decide) (fun c_1233 => ?_) (fun c_1233 => absurd (e1.trans e2.symm) c_1233)
  exact hend _ _ _ _
set_option maxHeartbeats 4000000 in
set_option maxRecDepth 100000 in
theorem lc_30 {E : zCx} {l : Launch} {D : va_G} {cy : Nat → ClassId} {b x mm : Nat} {r : Nat → Nat} {xs : Nat → Int32} {La Lb : List Nat} {σ : Nat → va_E} {φ : Nat → Nat → Nat → Int32} {ρ : Nat → Nat → Int32} (hE : zOk E l D cy R_law code 4 room_1) (hs : zSc E b 7 xs) (hx : zOR cy La σ φ x) (hm : zModel cy Lb σ mm r) (hm0 : zMo0 φ ρ mm r) (hend : ∀ (L : List Nat) (σ : Nat → va_E) (φ : Nat → Nat → Nat → Int32) (ρ : Nat → Nat → Int32), zW E 1000 64000 L σ φ ρ 1608 [(3, .int 0), (2, .ref mm), (1, .ref x), (0, .ref b)] []) : zW E 800 60000 (La ++ Lb) σ φ ρ 1238 [(3, .int 0), (2, .ref mm), (1, .ref x), (0, .ref b)] [] := by
  obtain ⟨SX, hxT⟩ := hx.at
  refine x_aload_n hE dL_law_1238 rfl 2 rfl ?_
  refine x_aload_n hE dL_law_1239 rfl 3 rfl ?_
  refine x_iload_n hE dL_law_1240 rfl 0 rfl ?_
  refine x_iconst (v := 1) hE dL_law_1241 (by decide) ?_
  refine x_iadd hE dL_law_1242 ?_
  refine x_norm (y := 1) (by decide) ?_
  refine s_ld (iN := 1) hE hs (by decide) (by decide) (by omega) dL_law_1243 ?_
  refine x_aload_n hE dL_law_1244 rfl 3 rfl ?_
  refine x_iload_n hE dL_law_1245 rfl 0 rfl ?_
  refine x_iconst (v := 2) hE dL_law_1246 (by decide) ?_
  refine x_iadd hE dL_law_1247 ?_
  refine x_norm (y := 2) (by decide) ?_
  refine s_ld (iN := 2) hE hs (by decide) (by decide) (by omega) dL_law_1248 ?_
  refine x_aload_n hE dL_law_1249 rfl 3 rfl ?_
  refine x_iload_n hE dL_law_1250 rfl 0 rfl ?_
  refine x_iconst (v := 3) hE dL_law_1251 (by decide) ?_
  refine x_iadd hE dL_law_1252 ?_
  refine x_norm (y := 3) (by decide) ?_
  refine s_ld (iN := 3) hE hs (by decide) (by decide) (by omega) dL_law_1253 ?_
  refine x_aload_n hE dL_law_1254 rfl 3 rfl ?_
  refine x_iload_n hE dL_law_1255 rfl 0 rfl ?_
  refine x_iconst (v := 4) hE dL_law_1256 (by decide) ?_
  refine x_iadd hE dL_law_1257 ?_
  refine x_norm (y := 4) (by decide) ?_
  refine s_ld (iN := 4) hE hs (by decide) (by decide) (by omega) dL_law_1258 ?_
  refine x_aload_n hE dL_law_1259 rfl 3 rfl ?_
  refine x_iload_n hE dL_law_1260 rfl 0 rfl ?_
  refine x_iconst (v := 5) hE dL_law_1261 (by decide) ?_
  refine x_iadd hE dL_law_1262 ?_
  refine x_norm (y := 5) (by decide) ?_
  refine s_ld (iN := 5) hE hs (by decide) (by decide) (by omega) dL_law_1263 ?_
  refine x_aload_n hE dL_law_1264 rfl 3 rfl ?_
  refine x_iload_n hE dL_law_1265 rfl 0 rfl ?_
  refine x_bipush (v := 6) hE dL_law_1266 (by decide) ?_
  refine x_iadd hE dL_law_1268 ?_
  refine x_norm (y := 6) (by decide) ?_
  refine s_ld (iN := 6) hE hs (by decide) (by decide) (by omega) dL_law_1269 ?_
  refine x_if_eq (tgt := 1277) hE dL_law_1270 (by decide) (fun c_1270 => ?_) (fun c_1270 => ?_)
  · refine x_iconst (v := 0) hE dL_law_1277 (by decide) ?_
    refine c_lK hE (r_VA (st := []) hE (o_filling l D cy La σ φ ρ (xs 1) (xs 2) (xs 3) (xs 4) (xs 5) (0) hx) q1284 q1285 q1286 q113 q1287 hxT rfl ⟨by decide, by decide, pn_X11_filling⟩ ⟨Nat.le_of_ble_eq_true rfl, Nat.le_of_ble_eq_true rfl⟩ ⟨Nat.le_of_ble_eq_true rfl, Nat.le_of_ble_eq_true rfl⟩ rfl (Nat.le_of_ble_eq_true rfl) dL_law_1278) (fun r1 u1 e1 => ?_)
    refine x_widen (k' := 900) (n' := 62000) (Nat.le_of_ble_eq_true rfl) (Nat.le_of_ble_eq_true rfl) ?_
    refine x_aload_n hE dL_law_1281 rfl 1 rfl ?_
    refine x_aload_n hE dL_law_1282 rfl 3 rfl ?_
    refine x_iload_n hE dL_law_1283 rfl 0 rfl ?_
    refine x_iconst (v := 1) hE dL_law_1284 (by decide) ?_
    refine x_iadd hE dL_law_1285 ?_
    refine x_norm (y := 1) (by decide) ?_
    refine s_ld (iN := 1) hE hs (by decide) (by decide) (by omega) dL_law_1286 ?_
    refine x_aload_n hE dL_law_1287 rfl 3 rfl ?_
    refine x_iload_n hE dL_law_1288 rfl 0 rfl ?_
    refine x_iconst (v := 2) hE dL_law_1289 (by decide) ?_
    refine x_iadd hE dL_law_1290 ?_
    refine x_norm (y := 2) (by decide) ?_
    refine s_ld (iN := 2) hE hs (by decide) (by decide) (by omega) dL_law_1291 ?_
    refine x_aload_n hE dL_law_1292 rfl 3 rfl ?_
    refine x_iload_n hE dL_law_1293 rfl 0 rfl ?_
    refine x_iconst (v := 3) hE dL_law_1294 (by decide) ?_
    refine x_iadd hE dL_law_1295 ?_
    refine x_norm (y := 3) (by decide) ?_
    refine s_ld (iN := 3) hE hs (by decide) (by decide) (by omega) dL_law_1296 ?_
    refine x_aload_n hE dL_law_1297 rfl 3 rfl ?_
    refine x_iload_n hE dL_law_1298 rfl 0 rfl ?_
    refine x_iconst (v := 4) hE dL_law_1299 (by decide) ?_
    refine x_iadd hE dL_law_1300 ?_
    refine x_norm (y := 4) (by decide) ?_
    refine s_ld (iN := 4) hE hs (by decide) (by decide) (by omega) dL_law_1301 ?_
    refine x_aload_n hE dL_law_1302 rfl 3 rfl ?_
    refine x_iload_n hE dL_law_1303 rfl 0 rfl ?_
    refine x_iconst (v := 5) hE dL_law_1304 (by decide) ?_
    refine x_iadd hE dL_law_1305 ?_
    refine x_norm (y := 5) (by decide) ?_
    refine s_ld (iN := 5) hE hs (by decide) (by decide) (by omega) dL_law_1306 ?_
    refine x_aload_n hE dL_law_1307 rfl 3 rfl ?_
    refine x_iload_n hE dL_law_1308 rfl 0 rfl ?_
    refine x_bipush (v := 6) hE dL_law_1309 (by decide) ?_
    refine x_iadd hE dL_law_1311 ?_
    refine x_norm (y := 6) (by decide) ?_
    refine s_ld (iN := 6) hE hs (by decide) (by decide) (by omega) dL_law_1312 ?_
    refine x_if_eq (tgt := 1320) hE dL_law_1313 (by decide) (fun c_1313 => ?_) (fun c_1313 => absurd (c_1270) c_1313)
    refine x_iconst (v := 0) hE dL_law_1320 (by decide) ?_
    refine c_l hE (r_V (st := [.long (r1)]) hE (m_filling l D cy Lb σ φ ρ (xs 1) (xs 2) (xs 3) (xs 4) (xs 5) (0) hm hm0) q2024 q2025 q2026 q124 q2027 hm.1 rfl ⟨by decide, by decide, pn_X12_filling⟩ ⟨Nat.le_of_ble_eq_true rfl, Nat.le_of_ble_eq_true rfl⟩ ⟨Nat.le_of_ble_eq_true rfl, Nat.le_of_ble_eq_true rfl⟩ rfl (Nat.le_of_ble_eq_true rfl) dL_law_1321) (fun r2 L2 σ2 φ2 ρ2 e2 => ?_)
    refine x_widen (k' := 1000) (n' := 64000) (Nat.le_of_ble_eq_true rfl) (Nat.le_of_ble_eq_true rfl) ?_
    refine x_lcmp hE dL_law_1324 ?_
    refine x_norm (y := 0) (by rw [show r1 = -1 from e1, show r2 = -1 from e2]; decide) ?_
    refine x_if_eq (tgt := 1608) hE dL_law_1325 (by decide) (fun c_1325 => ?_) (fun c_1325 => absurd (by decide) c_1325)
    exact hend _ _ _ _
  · refine x_iconst (v := 1) hE dL_law_1273 (by decide) ?_
    refine x_goto (tgt := 1278) hE dL_law_1274 (by decide) ?_
    refine c_lK hE (r_VA (st := []) hE (o_filling l D cy La σ φ ρ (xs 1) (xs 2) (xs 3) (xs 4) (xs 5) (1) hx) q1284 q1285 q1286 q113 q1287 hxT rfl ⟨by decide, by decide, pn_X11_filling⟩ ⟨Nat.le_of_ble_eq_true rfl, Nat.le_of_ble_eq_true rfl⟩ ⟨Nat.le_of_ble_eq_true rfl, Nat.le_of_ble_eq_true rfl⟩ rfl (Nat.le_of_ble_eq_true rfl) dL_law_1278) (fun r1 u1 e1 => ?_)
    refine x_widen (k' := 900) (n' := 62000) (Nat.le_of_ble_eq_true rfl) (Nat.le_of_ble_eq_true rfl) ?_
    refine x_aload_n hE dL_law_1281 rfl 1 rfl ?_
    refine x_aload_n hE dL_law_1282 rfl 3 rfl ?_
    refine x_iload_n hE dL_law_1283 rfl 0 rfl ?_
    refine x_iconst (v := 1) hE dL_law_1284 (by decide) ?_
    refine x_iadd hE dL_law_1285 ?_
    refine x_norm (y := 1) (by decide) ?_
    refine s_ld (iN := 1) hE hs (by decide) (by decide) (by omega) dL_law_1286 ?_
    refine x_aload_n hE dL_law_1287 rfl 3 rfl ?_
    refine x_iload_n hE dL_law_1288 rfl 0 rfl ?_
    refine x_iconst (v := 2) hE dL_law_1289 (by decide) ?_
    refine x_iadd hE dL_law_1290 ?_
    refine x_norm (y := 2) (by decide) ?_
    refine s_ld (iN := 2) hE hs (by decide) (by decide) (by omega) dL_law_1291 ?_
    refine x_aload_n hE dL_law_1292 rfl 3 rfl ?_
    refine x_iload_n hE dL_law_1293 rfl 0 rfl ?_
    refine x_iconst (v := 3) hE dL_law_1294 (by decide) ?_
    refine x_iadd hE dL_law_1295 ?_
    refine x_norm (y := 3) (by decide) ?_
    refine s_ld (iN := 3) hE hs (by decide) (by decide) (by omega) dL_law_1296 ?_
    refine x_aload_n hE dL_law_1297 rfl 3 rfl ?_
    refine x_iload_n hE dL_law_1298 rfl 0 rfl ?_
    refine x_iconst (v := 4) hE dL_law_1299 (by decide) ?_
    refine x_iadd hE dL_law_1300 ?_
    refine x_norm (y := 4) (by decide) ?_
    refine s_ld (iN := 4) hE hs (by decide) (by decide) (by omega) dL_law_1301 ?_
    refine x_aload_n hE dL_law_1302 rfl 3 rfl ?_
    refine x_iload_n hE dL_law_1303 rfl 0 rfl ?_
    refine x_iconst (v := 5) hE dL_law_1304 (by decide) ?_
    refine x_iadd hE dL_law_1305 ?_
    refine x_norm (y := 5) (by decide) ?_
    refine s_ld (iN := 5) hE hs (by decide) (by decide) (by omega) dL_law_1306 ?_
    refine x_aload_n hE dL_law_1307 rfl 3 rfl ?_
    refine x_iload_n hE dL_law_1308 rfl 0 rfl ?_
    refine x_bipush (v := 6) hE dL_law_1309 (by decide) ?_
    refine x_iadd hE dL_law_1311 ?_
    refine x_norm (y := 6) (by decide) ?_
    refine s_ld (iN := 6) hE hs (by decide) (by decide) (by omega) dL_law_1312 ?_
    refine x_if_eq (tgt := 1320) hE dL_law_1313 (by decide) (fun c_1313 => absurd c_1313 (c_1270)) (fun c_1313 => ?_)
    refine x_iconst (v := 1) hE dL_law_1316 (by decide) ?_
    refine x_goto (tgt := 1321) hE dL_law_1317 (by decide) ?_
    refine c_l hE (r_V (st := [.long (r1)]) hE (m_filling l D cy Lb σ φ ρ (xs 1) (xs 2) (xs 3) (xs 4) (xs 5) (1) hm hm0) q2024 q2025 q2026 q124 q2027 hm.1 rfl ⟨by decide, by decide, pn_X12_filling⟩ ⟨Nat.le_of_ble_eq_true rfl, Nat.le_of_ble_eq_true rfl⟩ ⟨Nat.le_of_ble_eq_true rfl, Nat.le_of_ble_eq_true rfl⟩ rfl (Nat.le_of_ble_eq_true rfl) dL_law_1321) (fun r2 L2 σ2 φ2 ρ2 e2 => ?_)
    refine x_widen (k' := 1000) (n' := 64000) (Nat.le_of_ble_eq_true rfl) (Nat.le_of_ble_eq_true rfl) ?_
    refine x_lcmp hE dL_law_1324 ?_
    refine x_norm (y := 0) (by rw [show r1 = -1 from e1, show r2 = -1 from e2]; decide) ?_
    refine x_if_eq (tgt := 1608) hE dL_law_1325 (by decide) (fun c_1325 => ?_) (fun c_1325 => absurd (by decide) c_1325)
    exact hend _ _ _ _
set_option maxHeartbeats 4000000 in
set_option maxRecDepth 100000 in
theorem lc_31 {E : zCx} {l : Launch} {D : va_G} {cy : Nat → ClassId} {b x mm : Nat} {r : Nat → Nat} {xs : Nat → Int32} {La Lb : List Nat} {σ : Nat → va_E} {φ : Nat → Nat → Nat → Int32} {ρ : Nat → Nat → Int32} (hE : zOk E l D cy R_law code 4 room_1) (hs : zSc E b 7 xs) (hx : zOR cy La σ φ x) (hm : zModel cy Lb σ mm r) (hm0 : zMo0 φ ρ mm r) (hend : ∀ (L : List Nat) (σ : Nat → va_E) (φ : Nat → Nat → Nat → Int32) (ρ : Nat → Nat → Int32), zW E 1000 64000 L σ φ ρ 1608 [(3, .int 0), (2, .ref mm), (1, .ref x), (0, .ref b)] []) : zW E 800 60000 (La ++ Lb) σ φ ρ 1330 [(3, .int 0), (2, .ref mm), (1, .ref x), (0, .ref b)] [] := by
  obtain ⟨SX, hxT⟩ := hx.at
  refine x_aload_n hE dL_law_1330 rfl 2 rfl ?_
  refine x_aload_n hE dL_law_1331 rfl 3 rfl ?_
  refine x_iload_n hE dL_law_1332 rfl 0 rfl ?_
  refine x_iconst (v := 1) hE dL_law_1333 (by decide) ?_
  refine x_iadd hE dL_law_1334 ?_
  refine x_norm (y := 1) (by decide) ?_
  refine s_ld (iN := 1) hE hs (by decide) (by decide) (by omega) dL_law_1335 ?_
  refine x_aload_n hE dL_law_1336 rfl 3 rfl ?_
  refine x_iload_n hE dL_law_1337 rfl 0 rfl ?_
  refine x_iconst (v := 2) hE dL_law_1338 (by decide) ?_
  refine x_iadd hE dL_law_1339 ?_
  refine x_norm (y := 2) (by decide) ?_
  refine s_ld (iN := 2) hE hs (by decide) (by decide) (by omega) dL_law_1340 ?_
  refine x_if_eq (tgt := 1348) hE dL_law_1341 (by decide) (fun c_1341 => ?_) (fun c_1341 => ?_)
  · refine x_iconst (v := 0) hE dL_law_1348 (by decide) ?_
    refine c_iK hE (r_VA (st := []) hE (o_forecast l D cy La σ φ ρ (xs 1) (0) hx) q1296 q1297 q1298 q113 q1299 hxT rfl ⟨by decide, by decide, pn_X11_forecast⟩ ⟨Nat.le_of_ble_eq_true rfl, Nat.le_of_ble_eq_true rfl⟩ ⟨Nat.le_of_ble_eq_true rfl, Nat.le_of_ble_eq_true rfl⟩ rfl (Nat.le_of_ble_eq_true rfl) dL_law_1349) (fun r1 u1 e1 => ?_)
    refine x_widen (k' := 900) (n' := 62000) (Nat.le_of_ble_eq_true rfl) (Nat.le_of_ble_eq_true rfl) ?_
    refine x_aload_n hE dL_law_1352 rfl 1 rfl ?_
    refine x_aload_n hE dL_law_1353 rfl 3 rfl ?_
    refine x_iload_n hE dL_law_1354 rfl 0 rfl ?_
    refine x_iconst (v := 1) hE dL_law_1355 (by decide) ?_
    refine x_iadd hE dL_law_1356 ?_
    refine x_norm (y := 1) (by decide) ?_
    refine s_ld (iN := 1) hE hs (by decide) (by decide) (by omega) dL_law_1357 ?_
    refine x_aload_n hE dL_law_1358 rfl 3 rfl ?_
    refine x_iload_n hE dL_law_1359 rfl 0 rfl ?_
    refine x_iconst (v := 2) hE dL_law_1360 (by decide) ?_
    refine x_iadd hE dL_law_1361 ?_
    refine x_norm (y := 2) (by decide) ?_
    refine s_ld (iN := 2) hE hs (by decide) (by decide) (by omega) dL_law_1362 ?_
    refine x_if_eq (tgt := 1370) hE dL_law_1363 (by decide) (fun c_1363 => ?_) (fun c_1363 => absurd (c_1341) c_1363)
    refine x_iconst (v := 0) hE dL_law_1370 (by decide) ?_
    refine c_i hE (r_V (st := [.int r1]) hE (m_forecast l D cy Lb σ φ ρ (xs 1) (0) hm hm0) q2033 q2034 q2035 q124 q2036 hm.1 rfl ⟨by decide, by decide, pn_X12_forecast⟩ ⟨Nat.le_of_ble_eq_true rfl, Nat.le_of_ble_eq_true rfl⟩ ⟨Nat.le_of_ble_eq_true rfl, Nat.le_of_ble_eq_true rfl⟩ rfl (Nat.le_of_ble_eq_true rfl) dL_law_1371) (fun r2 L2 σ2 φ2 ρ2 e2 => ?_)
    refine x_widen (k' := 1000) (n' := 64000) (Nat.le_of_ble_eq_true rfl) (Nat.le_of_ble_eq_true rfl) ?_
    refine x_icmp_eq (tgt := 1608) hE dL_law_1374 (by decide) (fun c_1374 => ?_) (fun c_1374 => absurd (e1.trans e2.symm) c_1374)
    exact hend _ _ _ _
  · refine x_iconst (v := 1) hE dL_law_1344 (by decide) ?_
    refine x_goto (tgt := 1349) hE dL_law_1345 (by decide) ?_
    refine c_iK hE (r_VA (st := []) hE (o_forecast l D cy La σ φ ρ (xs 1) (1) hx) q1296 q1297 q1298 q113 q1299 hxT rfl ⟨by decide, by decide, pn_X11_forecast⟩ ⟨Nat.le_of_ble_eq_true rfl, Nat.le_of_ble_eq_true rfl⟩ ⟨Nat.le_of_ble_eq_true rfl, Nat.le_of_ble_eq_true rfl⟩ rfl (Nat.le_of_ble_eq_true rfl) dL_law_1349) (fun r1 u1 e1 => ?_)
    refine x_widen (k' := 900) (n' := 62000) (Nat.le_of_ble_eq_true rfl) (Nat.le_of_ble_eq_true rfl) ?_
    refine x_aload_n hE dL_law_1352 rfl 1 rfl ?_
    refine x_aload_n hE dL_law_1353 rfl 3 rfl ?_
    refine x_iload_n hE dL_law_1354 rfl 0 rfl ?_
    refine x_iconst (v := 1) hE dL_law_1355 (by decide) ?_
    refine x_iadd hE dL_law_1356 ?_
    refine x_norm (y := 1) (by decide) ?_
    refine s_ld (iN := 1) hE hs (by decide) (by decide) (by omega) dL_law_1357 ?_
    refine x_aload_n hE dL_law_1358 rfl 3 rfl ?_
    refine x_iload_n hE dL_law_1359 rfl 0 rfl ?_
    refine x_iconst (v := 2) hE dL_law_1360 (by decide) ?_
    refine x_iadd hE dL_law_1361 ?_
    refine x_norm (y := 2) (by decide) ?_
    refine s_ld (iN := 2) hE hs (by decide) (by decide) (by omega) dL_law_1362 ?_
    refine x_if_eq (tgt := 1370) hE dL_law_1363 (by decide) (fun c_1363 => absurd c_1363 (c_1341)) (fun c_1363 => ?_)
    refine x_iconst (v := 1) hE dL_law_1366 (by decide) ?_
    refine x_goto (tgt := 1371) hE dL_law_1367 (by decide) ?_
    refine c_i hE (r_V (st := [.int r1]) hE (m_forecast l D cy Lb σ φ ρ (xs 1) (1) hm hm0) q2033 q2034 q2035 q124 q2036 hm.1 rfl ⟨by decide, by decide, pn_X12_forecast⟩ ⟨Nat.le_of_ble_eq_true rfl, Nat.le_of_ble_eq_true rfl⟩ ⟨Nat.le_of_ble_eq_true rfl, Nat.le_of_ble_eq_true rfl⟩ rfl (Nat.le_of_ble_eq_true rfl) dL_law_1371) (fun r2 L2 σ2 φ2 ρ2 e2 => ?_)
    refine x_widen (k' := 1000) (n' := 64000) (Nat.le_of_ble_eq_true rfl) (Nat.le_of_ble_eq_true rfl) ?_
    refine x_icmp_eq (tgt := 1608) hE dL_law_1374 (by decide) (fun c_1374 => ?_) (fun c_1374 => absurd (e1.trans e2.symm) c_1374)
    exact hend _ _ _ _
set_option maxHeartbeats 4000000 in
set_option maxRecDepth 100000 in
theorem lc_32 {E : zCx} {l : Launch} {D : va_G} {cy : Nat → ClassId} {b x mm : Nat} {r : Nat → Nat} {xs : Nat → Int32} {La Lb : List Nat} {σ : Nat → va_E} {φ : Nat → Nat → Nat → Int32} {ρ : Nat → Nat → Int32} (hE : zOk E l D cy R_law code 4 room_1) (hs : zSc E b 7 xs) (hx : zOR cy La σ φ x) (hm : zModel cy Lb σ mm r) (hm0 : zMo0 φ ρ mm r) (hend : ∀ (L : List Nat) (σ : Nat → va_E) (φ : Nat → Nat → Nat → Int32) (ρ : Nat → Nat → Int32), zW E 1000 64000 L σ φ ρ 1608 [(3, .int 0), (2, .ref mm), (1, .ref x), (0, .ref b)] []) : zW E 800 60000 (La ++ Lb) σ φ ρ 1379 [(3, .int 0), (2, .ref mm), (1, .ref x), (0, .ref b)] [] := by
  obtain ⟨SX, hxT⟩ := hx.at
  refine x_aload_n hE dL_law_1379 rfl 2 rfl ?_
  refine x_aload_n hE dL_law_1380 rfl 3 rfl ?_
  refine x_iload_n hE dL_law_1381 rfl 0 rfl ?_
  refine x_iconst (v := 1) hE dL_law_1382 (by decide) ?_
  refine x_iadd hE dL_law_1383 ?_
  refine x_norm (y := 1) (by decide) ?_
  refine s_ld (iN := 1) hE hs (by decide) (by decide) (by omega) dL_law_1384 ?_
  refine x_aload_n hE dL_law_1385 rfl 3 rfl ?_
  refine x_iload_n hE dL_law_1386 rfl 0 rfl ?_
  refine x_iconst (v := 2) hE dL_law_1387 (by decide) ?_
  refine x_iadd hE dL_law_1388 ?_
  refine x_norm (y := 2) (by decide) ?_
  refine s_ld (iN := 2) hE hs (by decide) (by decide) (by omega) dL_law_1389 ?_
  refine x_if_eq (tgt := 1397) hE dL_law_1390 (by decide) (fun c_1390 => ?_) (fun c_1390 => ?_)
  · refine x_iconst (v := 0) hE dL_law_1397 (by decide) ?_
    refine c_iK hE (r_VA (st := []) hE (o_errors l D cy La σ φ ρ (xs 1) (0) hx) q1304 q1305 q1306 q113 q1307 hxT rfl ⟨by decide, by decide, pn_X11_errors⟩ ⟨Nat.le_of_ble_eq_true rfl, Nat.le_of_ble_eq_true rfl⟩ ⟨Nat.le_of_ble_eq_true rfl, Nat.le_of_ble_eq_true rfl⟩ rfl (Nat.le_of_ble_eq_true rfl) dL_law_1398) (fun r1 u1 e1 => ?_)
    refine x_widen (k' := 900) (n' := 62000) (Nat.le_of_ble_eq_true rfl) (Nat.le_of_ble_eq_true rfl) ?_
    refine x_aload_n hE dL_law_1401 rfl 1 rfl ?_
    refine x_aload_n hE dL_law_1402 rfl 3 rfl ?_
    refine x_iload_n hE dL_law_1403 rfl 0 rfl ?_
    refine x_iconst (v := 1) hE dL_law_1404 (by decide) ?_
    refine x_iadd hE dL_law_1405 ?_
    refine x_norm (y := 1) (by decide) ?_
    refine s_ld (iN := 1) hE hs (by decide) (by decide) (by omega) dL_law_1406 ?_
    refine x_aload_n hE dL_law_1407 rfl 3 rfl ?_
    refine x_iload_n hE dL_law_1408 rfl 0 rfl ?_
    refine x_iconst (v := 2) hE dL_law_1409 (by decide) ?_
    refine x_iadd hE dL_law_1410 ?_
    refine x_norm (y := 2) (by decide) ?_
    refine s_ld (iN := 2) hE hs (by decide) (by decide) (by omega) dL_law_1411 ?_
    refine x_if_eq (tgt := 1419) hE dL_law_1412 (by decide) (fun c_1412 => ?_) (fun c_1412 => absurd (c_1390) c_1412)
    refine x_iconst (v := 0) hE dL_law_1419 (by decide) ?_
    refine c_i hE (r_V (st := [.int r1]) hE (m_errors l D cy Lb σ φ ρ (xs 1) (0) hm hm0) q2037 q2038 q2039 q124 q2040 hm.1 rfl ⟨by decide, by decide, pn_X12_errors⟩ ⟨Nat.le_of_ble_eq_true rfl, Nat.le_of_ble_eq_true rfl⟩ ⟨Nat.le_of_ble_eq_true rfl, Nat.le_of_ble_eq_true rfl⟩ rfl (Nat.le_of_ble_eq_true rfl) dL_law_1420) (fun r2 L2 σ2 φ2 ρ2 e2 => ?_)
    refine x_widen (k' := 1000) (n' := 64000) (Nat.le_of_ble_eq_true rfl) (Nat.le_of_ble_eq_true rfl) ?_
    refine x_icmp_eq (tgt := 1608) hE dL_law_1423 (by decide) (fun c_1423 => ?_) (fun c_1423 => absurd (e1.trans e2.symm) c_1423)
    exact hend _ _ _ _
  · refine x_iconst (v := 1) hE dL_law_1393 (by decide) ?_
    refine x_goto (tgt := 1398) hE dL_law_1394 (by decide) ?_
    refine c_iK hE (r_VA (st := []) hE (o_errors l D cy La σ φ ρ (xs 1) (1) hx) q1304 q1305 q1306 q113 q1307 hxT rfl ⟨by decide, by decide, pn_X11_errors⟩ ⟨Nat.le_of_ble_eq_true rfl, Nat.le_of_ble_eq_true rfl⟩ ⟨Nat.le_of_ble_eq_true rfl, Nat.le_of_ble_eq_true rfl⟩ rfl (Nat.le_of_ble_eq_true rfl) dL_law_1398) (fun r1 u1 e1 => ?_)
    refine x_widen (k' := 900) (n' := 62000) (Nat.le_of_ble_eq_true rfl) (Nat.le_of_ble_eq_true rfl) ?_
    refine x_aload_n hE dL_law_1401 rfl 1 rfl ?_
    refine x_aload_n hE dL_law_1402 rfl 3 rfl ?_
    refine x_iload_n hE dL_law_1403 rfl 0 rfl ?_
    refine x_iconst (v := 1) hE dL_law_1404 (by decide) ?_
    refine x_iadd hE dL_law_1405 ?_
    refine x_norm (y := 1) (by decide) ?_
    refine s_ld (iN := 1) hE hs (by decide) (by decide) (by omega) dL_law_1406 ?_
    refine x_aload_n hE dL_law_1407 rfl 3 rfl ?_
    refine x_iload_n hE dL_law_1408 rfl 0 rfl ?_
    refine x_iconst (v := 2) hE dL_law_1409 (by decide) ?_
    refine x_iadd hE dL_law_1410 ?_
    refine x_norm (y := 2) (by decide) ?_
    refine s_ld (iN := 2) hE hs (by decide) (by decide) (by omega) dL_law_1411 ?_
    refine x_if_eq (tgt := 1419) hE dL_law_1412 (by decide) (fun c_1412 => absurd c_1412 (c_1390)) (fun c_1412 => ?_)
    refine x_iconst (v := 1) hE dL_law_1415 (by decide) ?_
    refine x_goto (tgt := 1420) hE dL_law_1416 (by decide) ?_
    refine c_i hE (r_V (st := [.int r1]) hE (m_errors l D cy Lb σ φ ρ (xs 1) (1) hm hm0) q2037 q2038 q2039 q124 q2040 hm.1 rfl ⟨by decide, by decide, pn_X12_errors⟩ ⟨Nat.le_of_ble_eq_true rfl, Nat.le_of_ble_eq_true rfl⟩ ⟨Nat.le_of_ble_eq_true rfl, Nat.le_of_ble_eq_true rfl⟩ rfl (Nat.le_of_ble_eq_true rfl) dL_law_1420) (fun r2 L2 σ2 φ2 ρ2 e2 => ?_)
    refine x_widen (k' := 1000) (n' := 64000) (Nat.le_of_ble_eq_true rfl) (Nat.le_of_ble_eq_true rfl) ?_
    refine x_icmp_eq (tgt := 1608) hE dL_law_1423 (by decide) (fun c_1423 => ?_) (fun c_1423 => absurd (e1.trans e2.symm) c_1423)
    exact hend _ _ _ _
set_option maxHeartbeats 4000000 in
set_option maxRecDepth 100000 in
theorem lc_33 {E : zCx} {l : Launch} {D : va_G} {cy : Nat → ClassId} {b x mm : Nat} {r : Nat → Nat} {xs : Nat → Int32} {La Lb : List Nat} {σ : Nat → va_E} {φ : Nat → Nat → Nat → Int32} {ρ : Nat → Nat → Int32} (hE : zOk E l D cy R_law code 4 room_1) (hs : zSc E b 7 xs) (hx : zOR cy La σ φ x) (hm : zModel cy Lb σ mm r) (hm0 : zMo0 φ ρ mm r) (hend : ∀ (L : List Nat) (σ : Nat → va_E) (φ : Nat → Nat → Nat → Int32) (ρ : Nat → Nat → Int32), zW E 1000 64000 L σ φ ρ 1608 [(3, .int 0), (2, .ref mm), (1, .ref x), (0, .ref b)] []) : zW E 800 60000 (La ++ Lb) σ φ ρ 1428 [(3, .int 0), (2, .ref mm), (1, .ref x), (0, .ref b)] [] := by
  obtain ⟨SX, hxT⟩ := hx.at
  refine x_aload_n hE dL_law_1428 rfl 2 rfl ?_
  refine c_iK hE (r_VA (st := []) hE (o_bound l D cy La σ φ ρ  hx) q1316 q1317 q1318 q113 q1319 hxT rfl ⟨by decide, by decide, pn_X11_bound⟩ ⟨Nat.le_of_ble_eq_true rfl, Nat.le_of_ble_eq_true rfl⟩ ⟨Nat.le_of_ble_eq_true rfl, Nat.le_of_ble_eq_true rfl⟩ rfl (Nat.le_of_ble_eq_true rfl) dL_law_1429) (fun r1 u1 e1 => ?_)
  refine x_widen (k' := 900) (n' := 62000) (Nat.le_of_ble_eq_true rfl) (Nat.le_of_ble_eq_true rfl) ?_
  refine x_aload_n hE dL_law_1432 rfl 1 rfl ?_
  refine c_i hE (r_V (st := [.int r1]) hE (m_bound l D cy Lb σ φ ρ  hm hm0) q2045 q2046 q2047 q124 q2048 hm.1 rfl ⟨by decide, by decide, pn_X12_bound⟩ ⟨Nat.le_of_ble_eq_true rfl, Nat.le_of_ble_eq_true rfl⟩ ⟨Nat.le_of_ble_eq_true rfl, Nat.le_of_ble_eq_true rfl⟩ rfl (Nat.le_of_ble_eq_true rfl) dL_law_1433) (fun r2 L2 σ2 φ2 ρ2 e2 => ?_)
  refine x_widen (k' := 1000) (n' := 64000) (Nat.le_of_ble_eq_true rfl) (Nat.le_of_ble_eq_true rfl) ?_
  refine x_icmp_eq (tgt := 1608) hE dL_law_1436 (by decide) (fun c_1436 => ?_) (fun c_1436 => absurd (e1.trans e2.symm) c_1436)
  exact hend _ _ _ _
set_option maxHeartbeats 4000000 in
set_option maxRecDepth 100000 in
theorem lc_34 {E : zCx} {l : Launch} {D : va_G} {cy : Nat → ClassId} {b x mm : Nat} {r : Nat → Nat} {xs : Nat → Int32} {La Lb : List Nat} {σ : Nat → va_E} {φ : Nat → Nat → Nat → Int32} {ρ : Nat → Nat → Int32} (hE : zOk E l D cy R_law code 4 room_1) (hs : zSc E b 7 xs) (hx : zOR cy La σ φ x) (hm : zModel cy Lb σ mm r) (hm0 : zMo0 φ ρ mm r) (hend : ∀ (L : List Nat) (σ : Nat → va_E) (φ : Nat → Nat → Nat → Int32) (ρ : Nat → Nat → Int32), zW E 1000 64000 L σ φ ρ 1608 [(3, .int 0), (2, .ref mm), (1, .ref x), (0, .ref b)] []) : zW E 800 60000 (La ++ Lb) σ φ ρ 1441 [(3, .int 0), (2, .ref mm), (1, .ref x), (0, .ref b)] [] := by
  obtain ⟨SX, hxT⟩ := hx.at
  refine x_aload_n hE dL_law_1441 rfl 2 rfl ?_
  refine x_aload_n hE dL_law_1442 rfl 3 rfl ?_
  refine x_iload_n hE dL_law_1443 rfl 0 rfl ?_
  refine x_iconst (v := 1) hE dL_law_1444 (by decide) ?_
  refine x_iadd hE dL_law_1445 ?_
  refine x_norm (y := 1) (by decide) ?_
  refine s_ld (iN := 1) hE hs (by decide) (by decide) (by omega) dL_law_1446 ?_
  refine x_if_eq (tgt := 1454) hE dL_law_1447 (by decide) (fun c_1447 => ?_) (fun c_1447 => ?_)
  · refine x_iconst (v := 0) hE dL_law_1454 (by decide) ?_
    refine x_aload_n hE dL_law_1455 rfl 3 rfl ?_
    refine x_iload_n hE dL_law_1456 rfl 0 rfl ?_
    refine x_iconst (v := 2) hE dL_law_1457 (by decide) ?_
    refine x_iadd hE dL_law_1458 ?_
    refine x_norm (y := 2) (by decide) ?_
    refine s_ld (iN := 2) hE hs (by decide) (by decide) (by omega) dL_law_1459 ?_
    refine x_aload_n hE dL_law_1460 rfl 3 rfl ?_
    refine x_iload_n hE dL_law_1461 rfl 0 rfl ?_
    refine x_iconst (v := 3) hE dL_law_1462 (by decide) ?_
    refine x_iadd hE dL_law_1463 ?_
    refine x_norm (y := 3) (by decide) ?_
    refine s_ld (iN := 3) hE hs (by decide) (by decide) (by omega) dL_law_1464 ?_
    refine c_iK hE (r_VA (st := []) hE (o_offer l D cy La σ φ ρ (0) (xs 2) (xs 3) hx) q1320 q1321 q1322 q113 q1323 hxT rfl ⟨by decide, by decide, pn_X11_offer⟩ ⟨Nat.le_of_ble_eq_true rfl, Nat.le_of_ble_eq_true rfl⟩ ⟨Nat.le_of_ble_eq_true rfl, Nat.le_of_ble_eq_true rfl⟩ rfl (Nat.le_of_ble_eq_true rfl) dL_law_1465) (fun r1 u1 e1 => ?_)
    refine x_widen (k' := 900) (n' := 62000) (Nat.le_of_ble_eq_true rfl) (Nat.le_of_ble_eq_true rfl) ?_
    refine x_aload_n hE dL_law_1468 rfl 1 rfl ?_
    refine x_aload_n hE dL_law_1469 rfl 3 rfl ?_
    refine x_iload_n hE dL_law_1470 rfl 0 rfl ?_
    refine x_iconst (v := 1) hE dL_law_1471 (by decide) ?_
    refine x_iadd hE dL_law_1472 ?_
    refine x_norm (y := 1) (by decide) ?_
    refine s_ld (iN := 1) hE hs (by decide) (by decide) (by omega) dL_law_1473 ?_
    refine x_if_eq (tgt := 1481) hE dL_law_1474 (by decide) (fun c_1474 => ?_) (fun c_1474 => absurd (c_1447) c_1474)
    refine x_iconst (v := 0) hE dL_law_1481 (by decide) ?_
    refine x_aload_n hE dL_law_1482 rfl 3 rfl ?_
    refine x_iload_n hE dL_law_1483 rfl 0 rfl ?_
    refine x_iconst (v := 2) hE dL_law_1484 (by decide) ?_
    refine x_iadd hE dL_law_1485 ?_
    refine x_norm (y := 2) (by decide) ?_
    refine s_ld (iN := 2) hE hs (by decide) (by decide) (by omega) dL_law_1486 ?_
    refine x_aload_n hE dL_law_1487 rfl 3 rfl ?_
    refine x_iload_n hE dL_law_1488 rfl 0 rfl ?_
    refine x_iconst (v := 3) hE dL_law_1489 (by decide) ?_
    refine x_iadd hE dL_law_1490 ?_
    refine x_norm (y := 3) (by decide) ?_
    refine s_ld (iN := 3) hE hs (by decide) (by decide) (by omega) dL_law_1491 ?_
    refine c_i hE (r_V (st := [.int r1]) hE (m_offer l D cy Lb σ φ ρ (0) (xs 2) (xs 3) hm hm0) q2049 q2050 q2051 q124 q2052 hm.1 rfl ⟨by decide, by decide, pn_X12_offer⟩ ⟨Nat.le_of_ble_eq_true rfl, Nat.le_of_ble_eq_true rfl⟩ ⟨Nat.le_of_ble_eq_true rfl, Nat.le_of_ble_eq_true rfl⟩ rfl (Nat.le_of_ble_eq_true rfl) dL_law_1492) (fun r2 L2 σ2 φ2 ρ2 e2 => ?_)
    refine x_widen (k' := 1000) (n' := 64000) (Nat.le_of_ble_eq_true rfl) (Nat.le_of_ble_eq_true rfl) ?_
    refine x_icmp_eq (tgt := 1608) hE dL_law_1495 (by decide) (fun c_1495 => ?_) (fun c_1495 => absurd (e1.trans e2.symm) c_1495)
    exact hend _ _ _ _
  · refine x_iconst (v := 1) hE dL_law_1450 (by decide) ?_
    refine x_goto (tgt := 1455) hE dL_law_1451 (by decide) ?_
    refine x_aload_n hE dL_law_1455 rfl 3 rfl ?_
    refine x_iload_n hE dL_law_1456 rfl 0 rfl ?_
    refine x_iconst (v := 2) hE dL_law_1457 (by decide) ?_
    refine x_iadd hE dL_law_1458 ?_
    refine x_norm (y := 2) (by decide) ?_
    refine s_ld (iN := 2) hE hs (by decide) (by decide) (by omega) dL_law_1459 ?_
    refine x_aload_n hE dL_law_1460 rfl 3 rfl ?_
    refine x_iload_n hE dL_law_1461 rfl 0 rfl ?_
    refine x_iconst (v := 3) hE dL_law_1462 (by decide) ?_
    refine x_iadd hE dL_law_1463 ?_
    refine x_norm (y := 3) (by decide) ?_
    refine s_ld (iN := 3) hE hs (by decide) (by decide) (by omega) dL_law_1464 ?_
    refine c_iK hE (r_VA (st := []) hE (o_offer l D cy La σ φ ρ (1) (xs 2) (xs 3) hx) q1320 q1321 q1322 q113 q1323 hxT rfl ⟨by decide, by decide, pn_X11_offer⟩ ⟨Nat.le_of_ble_eq_true rfl, Nat.le_of_ble_eq_true rfl⟩ ⟨Nat.le_of_ble_eq_true rfl, Nat.le_of_ble_eq_true rfl⟩ rfl (Nat.le_of_ble_eq_true rfl) dL_law_1465) (fun r1 u1 e1 => ?_)
    refine x_widen (k' := 900) (n' := 62000) (Nat.le_of_ble_eq_true rfl) (Nat.le_of_ble_eq_true rfl) ?_
    refine x_aload_n hE dL_law_1468 rfl 1 rfl ?_
    refine x_aload_n hE dL_law_1469 rfl 3 rfl ?_
    refine x_iload_n hE dL_law_1470 rfl 0 rfl ?_
    refine x_iconst (v := 1) hE dL_law_1471 (by decide) ?_
    refine x_iadd hE dL_law_1472 ?_
    refine x_norm (y := 1) (by decide) ?_
    refine s_ld (iN := 1) hE hs (by decide) (by decide) (by omega) dL_law_1473 ?_
    refine x_if_eq (tgt := 1481) hE dL_law_1474 (by decide) (fun c_1474 => absurd c_1474 (c_1447)) (fun c_1474 => ?_)
    refine x_iconst (v := 1) hE dL_law_1477 (by decide) ?_
    refine x_goto (tgt := 1482) hE dL_law_1478 (by decide) ?_
    refine x_aload_n hE dL_law_1482 rfl 3 rfl ?_
    refine x_iload_n hE dL_law_1483 rfl 0 rfl ?_
    refine x_iconst (v := 2) hE dL_law_1484 (by decide) ?_
    refine x_iadd hE dL_law_1485 ?_
    refine x_norm (y := 2) (by decide) ?_
    refine s_ld (iN := 2) hE hs (by decide) (by decide) (by omega) dL_law_1486 ?_
    refine x_aload_n hE dL_law_1487 rfl 3 rfl ?_
    refine x_iload_n hE dL_law_1488 rfl 0 rfl ?_
    refine x_iconst (v := 3) hE dL_law_1489 (by decide) ?_
    refine x_iadd hE dL_law_1490 ?_
    refine x_norm (y := 3) (by decide) ?_
    refine s_ld (iN := 3) hE hs (by decide) (by decide) (by omega) dL_law_1491 ?_
    refine c_i hE (r_V (st := [.int r1]) hE (m_offer l D cy Lb σ φ ρ (1) (xs 2) (xs 3) hm hm0) q2049 q2050 q2051 q124 q2052 hm.1 rfl ⟨by decide, by decide, pn_X12_offer⟩ ⟨Nat.le_of_ble_eq_true rfl, Nat.le_of_ble_eq_true rfl⟩ ⟨Nat.le_of_ble_eq_true rfl, Nat.le_of_ble_eq_true rfl⟩ rfl (Nat.le_of_ble_eq_true rfl) dL_law_1492) (fun r2 L2 σ2 φ2 ρ2 e2 => ?_)
    refine x_widen (k' := 1000) (n' := 64000) (Nat.le_of_ble_eq_true rfl) (Nat.le_of_ble_eq_true rfl) ?_
    refine x_icmp_eq (tgt := 1608) hE dL_law_1495 (by decide) (fun c_1495 => ?_) (fun c_1495 => absurd (e1.trans e2.symm) c_1495)
    exact hend _ _ _ _
set_option maxHeartbeats 4000000 in
set_option maxRecDepth 100000 in
theorem lc_35 {E : zCx} {l : Launch} {D : va_G} {cy : Nat → ClassId} {b x mm : Nat} {r : Nat → Nat} {xs : Nat → Int32} {La Lb : List Nat} {σ : Nat → va_E} {φ : Nat → Nat → Nat → Int32} {ρ : Nat → Nat → Int32} (hE : zOk E l D cy R_law code 4 room_1) (hs : zSc E b 7 xs) (hx : zOR cy La σ φ x) (hm : zModel cy Lb σ mm r) (hm0 : zMo0 φ ρ mm r) (hend : ∀ (L : List Nat) (σ : Nat → va_E) (φ : Nat → Nat → Nat → Int32) (ρ : Nat → Nat → Int32), zW E 1000 64000 L σ φ ρ 1608 [(3, .int 0), (2, .ref mm), (1, .ref x), (0, .ref b)] []) : zW E 800 60000 (La ++ Lb) σ φ ρ 1500 [(3, .int 0), (2, .ref mm), (1, .ref x), (0, .ref b)] [] := by
  obtain ⟨SX, hxT⟩ := hx.at
  refine x_aload_n hE dL_law_1500 rfl 2 rfl ?_
  refine x_aload_n hE dL_law_1501 rfl 3 rfl ?_
  refine x_iload_n hE dL_law_1502 rfl 0 rfl ?_
  refine x_iconst (v := 1) hE dL_law_1503 (by decide) ?_
  refine x_iadd hE dL_law_1504 ?_
  refine x_norm (y := 1) (by decide) ?_
  refine s_ld (iN := 1) hE hs (by decide) (by decide) (by omega) dL_law_1505 ?_
  refine c_iK hE (r_VA (st := []) hE (o_market l D cy La σ φ ρ (xs 1) hx) q1328 q1329 q1330 q113 q1331 hxT rfl ⟨by decide, by decide, pn_X11_market⟩ ⟨Nat.le_of_ble_eq_true rfl, Nat.le_of_ble_eq_true rfl⟩ ⟨Nat.le_of_ble_eq_true rfl, Nat.le_of_ble_eq_true rfl⟩ rfl (Nat.le_of_ble_eq_true rfl) dL_law_1506) (fun r1 u1 e1 => ?_)
  refine x_widen (k' := 900) (n' := 62000) (Nat.le_of_ble_eq_true rfl) (Nat.le_of_ble_eq_true rfl) ?_
  refine x_aload_n hE dL_law_1509 rfl 1 rfl ?_
  refine x_aload_n hE dL_law_1510 rfl 3 rfl ?_
  refine x_iload_n hE dL_law_1511 rfl 0 rfl ?_
  refine x_iconst (v := 1) hE dL_law_1512 (by decide) ?_
  refine x_iadd hE dL_law_1513 ?_
  refine x_norm (y := 1) (by decide) ?_
  refine s_ld (iN := 1) hE hs (by decide) (by decide) (by omega) dL_law_1514 ?_
  refine c_i hE (r_V (st := [.int r1]) hE (m_market l D cy Lb σ φ ρ (xs 1) hm hm0) q2053 q2054 q2055 q124 q2056 hm.1 rfl ⟨by decide, by decide, pn_X12_market⟩ ⟨Nat.le_of_ble_eq_true rfl, Nat.le_of_ble_eq_true rfl⟩ ⟨Nat.le_of_ble_eq_true rfl, Nat.le_of_ble_eq_true rfl⟩ rfl (Nat.le_of_ble_eq_true rfl) dL_law_1515) (fun r2 L2 σ2 φ2 ρ2 e2 => ?_)
  refine x_widen (k' := 1000) (n' := 64000) (Nat.le_of_ble_eq_true rfl) (Nat.le_of_ble_eq_true rfl) ?_
  refine x_icmp_eq (tgt := 1608) hE dL_law_1518 (by decide) (fun c_1518 => ?_) (fun c_1518 => absurd (e1.trans e2.symm) c_1518)
  exact hend _ _ _ _
set_option maxHeartbeats 4000000 in
set_option maxRecDepth 100000 in
theorem lc_36 {E : zCx} {l : Launch} {D : va_G} {cy : Nat → ClassId} {b x mm : Nat} {r : Nat → Nat} {xs : Nat → Int32} {La Lb : List Nat} {σ : Nat → va_E} {φ : Nat → Nat → Nat → Int32} {ρ : Nat → Nat → Int32} (hE : zOk E l D cy R_law code 4 room_1) (hs : zSc E b 7 xs) (hx : zOR cy La σ φ x) (hm : zModel cy Lb σ mm r) (hm0 : zMo0 φ ρ mm r) (hend : ∀ (L : List Nat) (σ : Nat → va_E) (φ : Nat → Nat → Nat → Int32) (ρ : Nat → Nat → Int32), zW E 1000 64000 L σ φ ρ 1608 [(3, .int 0), (2, .ref mm), (1, .ref x), (0, .ref b)] []) : zW E 800 60000 (La ++ Lb) σ φ ρ 1523 [(3, .int 0), (2, .ref mm), (1, .ref x), (0, .ref b)] [] := by
  obtain ⟨SX, hxT⟩ := hx.at
  refine x_aload_n hE dL_law_1523 rfl 2 rfl ?_
  refine x_aload_n hE dL_law_1524 rfl 3 rfl ?_
  refine x_iload_n hE dL_law_1525 rfl 0 rfl ?_
  refine x_iconst (v := 1) hE dL_law_1526 (by decide) ?_
  refine x_iadd hE dL_law_1527 ?_
  refine x_norm (y := 1) (by decide) ?_
  refine s_ld (iN := 1) hE hs (by decide) (by decide) (by omega) dL_law_1528 ?_
  refine c_iK hE (r_VA (st := []) hE (o_greatestTax l D cy La σ φ ρ (xs 1) hx) q1337 q1338 q1339 q113 q1340 hxT rfl ⟨by decide, by decide, pn_X11_greatestTax⟩ ⟨Nat.le_of_ble_eq_true rfl, Nat.le_of_ble_eq_true rfl⟩ ⟨Nat.le_of_ble_eq_true rfl, Nat.le_of_ble_eq_true rfl⟩ rfl (Nat.le_of_ble_eq_true rfl) dL_law_1529) (fun r1 u1 e1 => ?_)
  refine x_widen (k' := 900) (n' := 62000) (Nat.le_of_ble_eq_true rfl) (Nat.le_of_ble_eq_true rfl) ?_
  refine x_aload_n hE dL_law_1532 rfl 1 rfl ?_
  refine x_aload_n hE dL_law_1533 rfl 3 rfl ?_
  refine x_iload_n hE dL_law_1534 rfl 0 rfl ?_
  refine x_iconst (v := 1) hE dL_law_1535 (by decide) ?_
  refine x_iadd hE dL_law_1536 ?_
  refine x_norm (y := 1) (by decide) ?_
  refine s_ld (iN := 1) hE hs (by decide) (by decide) (by omega) dL_law_1537 ?_
  refine c_i hE (r_V (st := [.int r1]) hE (m_greatestTax l D cy Lb σ φ ρ (xs 1) hm hm0) q2061 q2062 q2063 q124 q2064 hm.1 rfl ⟨by decide, by decide, pn_X12_greatestTax⟩ ⟨Nat.le_of_ble_eq_true rfl, Nat.le_of_ble_eq_true rfl⟩ ⟨Nat.le_of_ble_eq_true rfl, Nat.le_of_ble_eq_true rfl⟩ rfl (Nat.le_of_ble_eq_true rfl) dL_law_1538) (fun r2 L2 σ2 φ2 ρ2 e2 => ?_)
  refine x_widen (k' := 1000) (n' := 64000) (Nat.le_of_ble_eq_true rfl) (Nat.le_of_ble_eq_true rfl) ?_
  refine x_icmp_eq (tgt := 1608) hE dL_law_1541 (by decide) (fun c_1541 => ?_) (fun c_1541 => absurd (e1.trans e2.symm) c_1541)
  exact hend _ _ _ _
set_option maxHeartbeats 4000000 in
set_option maxRecDepth 100000 in
theorem lc_37 {E : zCx} {l : Launch} {D : va_G} {cy : Nat → ClassId} {b x mm : Nat} {r : Nat → Nat} {xs : Nat → Int32} {La Lb : List Nat} {σ : Nat → va_E} {φ : Nat → Nat → Nat → Int32} {ρ : Nat → Nat → Int32} (hE : zOk E l D cy R_law code 4 room_1) (hs : zSc E b 7 xs) (hx : zOR cy La σ φ x) (hm : zModel cy Lb σ mm r) (hm0 : zMo0 φ ρ mm r) (hend : ∀ (L : List Nat) (σ : Nat → va_E) (φ : Nat → Nat → Nat → Int32) (ρ : Nat → Nat → Int32), zW E 1000 64000 L σ φ ρ 1608 [(3, .int 0), (2, .ref mm), (1, .ref x), (0, .ref b)] []) : zW E 800 60000 (La ++ Lb) σ φ ρ 1546 [(3, .int 0), (2, .ref mm), (1, .ref x), (0, .ref b)] [] := by
  obtain ⟨SX, hxT⟩ := hx.at
  refine x_aload_n hE dL_law_1546 rfl 2 rfl ?_
  refine c_iK hE (r_VA (st := []) hE (o_water l D cy La σ φ ρ  hx) q1350 q1351 q1352 q113 q1353 hxT rfl ⟨by decide, by decide, pn_X11_water⟩ ⟨Nat.le_of_ble_eq_true rfl, Nat.le_of_ble_eq_true rfl⟩ ⟨Nat.le_of_ble_eq_true rfl, Nat.le_of_ble_eq_true rfl⟩ rfl (Nat.le_of_ble_eq_true rfl) dL_law_1547) (fun r1 u1 e1 => ?_)
  refine x_widen (k' := 900) (n' := 62000) (Nat.le_of_ble_eq_true rfl) (Nat.le_of_ble_eq_true rfl) ?_
  refine x_aload_n hE dL_law_1550 rfl 1 rfl ?_
  refine c_i hE (r_V (st := [.int r1]) hE (m_water l D cy Lb σ φ ρ  hm hm0) q2065 q2066 q2067 q124 q2068 hm.1 rfl ⟨by decide, by decide, pn_X12_water⟩ ⟨Nat.le_of_ble_eq_true rfl, Nat.le_of_ble_eq_true rfl⟩ ⟨Nat.le_of_ble_eq_true rfl, Nat.le_of_ble_eq_true rfl⟩ rfl (Nat.le_of_ble_eq_true rfl) dL_law_1551) (fun r2 L2 σ2 φ2 ρ2 e2 => ?_)
  refine x_widen (k' := 1000) (n' := 64000) (Nat.le_of_ble_eq_true rfl) (Nat.le_of_ble_eq_true rfl) ?_
  refine x_icmp_eq (tgt := 1608) hE dL_law_1554 (by decide) (fun c_1554 => ?_) (fun c_1554 => absurd (e1.trans e2.symm) c_1554)
  exact hend _ _ _ _
set_option maxHeartbeats 4000000 in
set_option maxRecDepth 100000 in
theorem lc_38 {E : zCx} {l : Launch} {D : va_G} {cy : Nat → ClassId} {b x mm : Nat} {r : Nat → Nat} {xs : Nat → Int32} {La Lb : List Nat} {σ : Nat → va_E} {φ : Nat → Nat → Nat → Int32} {ρ : Nat → Nat → Int32} (hE : zOk E l D cy R_law code 4 room_1) (hs : zSc E b 7 xs) (hx : zOR cy La σ φ x) (hm : zModel cy Lb σ mm r) (hm0 : zMo0 φ ρ mm r) (hend : ∀ (L : List Nat) (σ : Nat → va_E) (φ : Nat → Nat → Nat → Int32) (ρ : Nat → Nat → Int32), zW E 1000 64000 L σ φ ρ 1608 [(3, .int 0), (2, .ref mm), (1, .ref x), (0, .ref b)] []) : zW E 800 60000 (La ++ Lb) σ φ ρ 1559 [(3, .int 0), (2, .ref mm), (1, .ref x), (0, .ref b)] [] := by
  obtain ⟨SX, hxT⟩ := hx.at
  refine x_aload_n hE dL_law_1559 rfl 2 rfl ?_
  refine c_iK hE (r_VA (st := []) hE (o_image l D cy La σ φ ρ  hx) q1354 q1355 q1356 q113 q1357 hxT rfl ⟨by decide, by decide, pn_X11_image⟩ ⟨Nat.le_of_ble_eq_true rfl, Nat.le_of_ble_eq_true rfl⟩ ⟨Nat.le_of_ble_eq_true rfl, Nat.le_of_ble_eq_true rfl⟩ rfl (Nat.le_of_ble_eq_true rfl) dL_law_1560) (fun r1 u1 e1 => ?_)
  refine x_widen (k' := 900) (n' := 62000) (Nat.le_of_ble_eq_true rfl) (Nat.le_of_ble_eq_true rfl) ?_
  refine x_aload_n hE dL_law_1563 rfl 1 rfl ?_
  refine c_i hE (r_V (st := [.int r1]) hE (m_image l D cy Lb σ φ ρ  hm hm0) q2069 q2070 q2071 q124 q2072 hm.1 rfl ⟨by decide, by decide, pn_X12_image⟩ ⟨Nat.le_of_ble_eq_true rfl, Nat.le_of_ble_eq_true rfl⟩ ⟨Nat.le_of_ble_eq_true rfl, Nat.le_of_ble_eq_true rfl⟩ rfl (Nat.le_of_ble_eq_true rfl) dL_law_1564) (fun r2 L2 σ2 φ2 ρ2 e2 => ?_)
  refine x_widen (k' := 1000) (n' := 64000) (Nat.le_of_ble_eq_true rfl) (Nat.le_of_ble_eq_true rfl) ?_
  refine x_icmp_eq (tgt := 1608) hE dL_law_1567 (by decide) (fun c_1567 => ?_) (fun c_1567 => absurd (e1.trans e2.symm) c_1567)
  exact hend _ _ _ _
set_option maxHeartbeats 4000000 in
set_option maxRecDepth 100000 in
theorem lc_39 {E : zCx} {l : Launch} {D : va_G} {cy : Nat → ClassId} {b x mm : Nat} {r : Nat → Nat} {xs : Nat → Int32} {La Lb : List Nat} {σ : Nat → va_E} {φ : Nat → Nat → Nat → Int32} {ρ : Nat → Nat → Int32} (hE : zOk E l D cy R_law code 4 room_1) (hs : zSc E b 7 xs) (hx : zOR cy La σ φ x) (hm : zModel cy Lb σ mm r) (hm0 : zMo0 φ ρ mm r) (hend : ∀ (L : List Nat) (σ : Nat → va_E) (φ : Nat → Nat → Nat → Int32) (ρ : Nat → Nat → Int32), zW E 1000 64000 L σ φ ρ 1608 [(3, .int 0), (2, .ref mm), (1, .ref x), (0, .ref b)] []) : zW E 800 60000 (La ++ Lb) σ φ ρ 1572 [(3, .int 0), (2, .ref mm), (1, .ref x), (0, .ref b)] [] := by
  obtain ⟨SX, hxT⟩ := hx.at
  refine x_aload_n hE dL_law_1572 rfl 2 rfl ?_
  refine c_iK hE (r_VA (st := []) hE (o_back l D cy La σ φ ρ  hx) q1377 q1378 q1379 q113 q1380 hxT rfl ⟨by decide, by decide, pn_X11_back⟩ ⟨Nat.le_of_ble_eq_true rfl, Nat.le_of_ble_eq_true rfl⟩ ⟨Nat.le_of_ble_eq_true rfl, Nat.le_of_ble_eq_true rfl⟩ rfl (Nat.le_of_ble_eq_true rfl) dL_law_1573) (fun r1 u1 e1 => ?_)
  refine x_widen (k' := 900) (n' := 62000) (Nat.le_of_ble_eq_true rfl) (Nat.le_of_ble_eq_true rfl) ?_
  refine x_aload_n hE dL_law_1576 rfl 1 rfl ?_
  refine c_i hE (r_V (st := [.int r1]) hE (m_back l D cy Lb σ φ ρ  hm hm0) q2073 q2074 q2075 q124 q2076 hm.1 rfl ⟨by decide, by decide, pn_X12_back⟩ ⟨Nat.le_of_ble_eq_true rfl, Nat.le_of_ble_eq_true rfl⟩ ⟨Nat.le_of_ble_eq_true rfl, Nat.le_of_ble_eq_true rfl⟩ rfl (Nat.le_of_ble_eq_true rfl) dL_law_1577) (fun r2 L2 σ2 φ2 ρ2 e2 => ?_)
  refine x_widen (k' := 1000) (n' := 64000) (Nat.le_of_ble_eq_true rfl) (Nat.le_of_ble_eq_true rfl) ?_
  refine x_icmp_eq (tgt := 1608) hE dL_law_1580 (by decide) (fun c_1580 => ?_) (fun c_1580 => absurd (e1.trans e2.symm) c_1580)
  exact hend _ _ _ _
set_option maxHeartbeats 4000000 in
set_option maxRecDepth 100000 in
theorem lc_40 {E : zCx} {l : Launch} {D : va_G} {cy : Nat → ClassId} {b x mm : Nat} {r : Nat → Nat} {xs : Nat → Int32} {La Lb : List Nat} {σ : Nat → va_E} {φ : Nat → Nat → Nat → Int32} {ρ : Nat → Nat → Int32} (hE : zOk E l D cy R_law code 4 room_1) (hs : zSc E b 7 xs) (hx : zOR cy La σ φ x) (hm : zModel cy Lb σ mm r) (hm0 : zMo0 φ ρ mm r) (hend : ∀ (L : List Nat) (σ : Nat → va_E) (φ : Nat → Nat → Nat → Int32) (ρ : Nat → Nat → Int32), zW E 1000 64000 L σ φ ρ 1608 [(3, .int 0), (2, .ref mm), (1, .ref x), (0, .ref b)] []) : zW E 800 60000 (La ++ Lb) σ φ ρ 1585 [(3, .int 0), (2, .ref mm), (1, .ref x), (0, .ref b)] [] := by
  obtain ⟨SX, hxT⟩ := hx.at
  refine x_aload_n hE dL_law_1585 rfl 2 rfl ?_
  refine x_aload_n hE dL_law_1586 rfl 3 rfl ?_
  refine x_iload_n hE dL_law_1587 rfl 0 rfl ?_
  refine x_iconst (v := 1) hE dL_law_1588 (by decide) ?_
  refine x_iadd hE dL_law_1589 ?_
  refine x_norm (y := 1) (by decide) ?_
  refine s_ld (iN := 1) hE hs (by decide) (by decide) (by omega) dL_law_1590 ?_
  refine c_iK hE (r_VA (st := []) hE (o_about l D cy La σ φ ρ (xs 1) hx) q1381 q1382 q1383 q113 q1384 hxT rfl ⟨by decide, by decide, pn_X11_about⟩ ⟨Nat.le_of_ble_eq_true rfl, Nat.le_of_ble_eq_true rfl⟩ ⟨Nat.le_of_ble_eq_true rfl, Nat.le_of_ble_eq_true rfl⟩ rfl (Nat.le_of_ble_eq_true rfl) dL_law_1591) (fun r1 u1 e1 => ?_)
  refine x_widen (k' := 900) (n' := 62000) (Nat.le_of_ble_eq_true rfl) (Nat.le_of_ble_eq_true rfl) ?_
  refine x_aload_n hE dL_law_1594 rfl 1 rfl ?_
  refine x_aload_n hE dL_law_1595 rfl 3 rfl ?_
  refine x_iload_n hE dL_law_1596 rfl 0 rfl ?_
  refine x_iconst (v := 1) hE dL_law_1597 (by decide) ?_
  refine x_iadd hE dL_law_1598 ?_
  refine x_norm (y := 1) (by decide) ?_
  refine s_ld (iN := 1) hE hs (by decide) (by decide) (by omega) dL_law_1599 ?_
  refine c_i hE (r_V (st := [.int r1]) hE (m_about l D cy Lb σ φ ρ (xs 1) hm hm0) q2077 q2078 q2079 q124 q2080 hm.1 rfl ⟨by decide, by decide, pn_X12_about⟩ ⟨Nat.le_of_ble_eq_true rfl, Nat.le_of_ble_eq_true rfl⟩ ⟨Nat.le_of_ble_eq_true rfl, Nat.le_of_ble_eq_true rfl⟩ rfl (Nat.le_of_ble_eq_true rfl) dL_law_1600) (fun r2 L2 σ2 φ2 ρ2 e2 => ?_)
  refine x_widen (k' := 1000) (n' := 64000) (Nat.le_of_ble_eq_true rfl) (Nat.le_of_ble_eq_true rfl) ?_
  refine x_icmp_eq (tgt := 1608) hE dL_law_1603 (by decide) (fun c_1603 => ?_) (fun c_1603 => absurd (e1.trans e2.symm) c_1603)
  exact hend _ _ _ _
