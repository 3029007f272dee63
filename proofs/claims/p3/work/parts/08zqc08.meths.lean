/-! ===== written by program (wip/layer4) ===== -/
def fm_m7166_6v2 : Nat := 3941070043873280
/-- IslandHall$Parser.negation -/
theorem m7166_6v2 {B : eB} (d : Nat) (M0 : Mm) (p1 : Int) (x9_1 : Int) (x9_3 : Int) (x9_2 : Int) (x6_4 : Int) (x6_5 : Int) (x6_3 : Int) (T : Int → Int) (c0 : Cg) (hP0 : Pw M0) (l1 : 2 ≤ p1) (u1 : p1 ≤ 2) (ex9_1 : M0 9 1 = x9_1) (lx9_1 : 0 ≤ x9_1) (ux9_1 : x9_1 ≤ 500) (ex9_3 : M0 9 3 = x9_3) (lx9_3 : 0 ≤ x9_3) (ux9_3 : x9_3 ≤ 500) (ex9_2 : M0 9 2 = x9_2) (lx9_2 : 0 ≤ x9_2) (ux9_2 : x9_2 ≤ 500) (ex6_4 : M0 6 4 = x6_4) (lx6_4 : 0 ≤ x6_4) (ux6_4 : x6_4 ≤ 6) (ex6_5 : M0 6 5 = x6_5) (lx6_5 : (-1) ≤ x6_5) (ux6_5 : x6_5 ≤ 500) (ex6_3 : M0 6 3 = x6_3) (lx6_3 : (-1) ≤ x6_3) (ux6_3 : x6_3 ≤ 7) (rp0 : 0 ≤ x9_1 + (-1) * x9_2) (rp1 : 0 ≤ x9_2 + (-1) * x9_3) (rp2 : 0 ≤ x9_1 + (-1) * x9_3) (xp0 : Rch T x9_1 x6_3 c0 (1, p1 + 1, x9_3, 0)) (pp_TX : TXP T M0) (pp_TC : TCP T M0) : Ct B (d + 26) 166 [R 6, I p1] M0 (qI fun z M => Pw M ∧ Fr fm_m7166_6v2 M0 M ∧ 0 ≤ z ∧ z ≤ 1 ∧ 0 ≤ M 9 3 + (-1) * x9_3 ∧ 0 ≤ x9_1 + (-1) * (M 9 3) ∧ 0 ≤ x9_1 + (-1) * (M 9 2) ∧ 0 ≤ M 9 2 + (-1) * (M 9 3) ∧ 0 ≤ M 6 4 ∧ 0 ≤ M 6 5 + 1 ∧ (z = 1 → 0 ≤ M 6 4 + (-1) * x6_4) ∧ (z = 1 → 0 ≤ (-1) * (M 6 4) + x6_4) ∧ (z = 1 → 0 ≤ M 6 5 + (-1) * x6_5) ∧ (z = 1 → 0 ≤ (-1) * (M 6 5) + x6_5) ∧ ((z = 1 ∧ Rch T x9_1 x6_3 c0 (2, p1 + 1, M 9 3, 0)) ∨ (z = 0 ∧ Rch T x9_1 x6_3 c0 (3, 0, M 6 5, M 6 4))) ∧ (TXP T M) ∧ (TCP T M)) := by
  refine ct_of (d := d + 25) (k := 2) (L := [some (R 6), some (I p1), none, none]) rfl rfl rfl ?_
  have hF0 := Fr.rf fm_m7166_6v2 M0
  generalize hQ : (qI fun z M => Pw M ∧ Fr fm_m7166_6v2 M0 M ∧ 0 ≤ z ∧ z ≤ 1 ∧ 0 ≤ M 9 3 + (-1) * x9_3 ∧ 0 ≤ x9_1 + (-1) * (M 9 3) ∧ 0 ≤ x9_1 + (-1) * (M 9 2) ∧ 0 ≤ M 9 2 + (-1) * (M 9 3) ∧ 0 ≤ M 6 4 ∧ 0 ≤ M 6 5 + 1 ∧ (z = 1 → 0 ≤ M 6 4 + (-1) * x6_4) ∧ (z = 1 → 0 ≤ (-1) * (M 6 4) + x6_4) ∧ (z = 1 → 0 ≤ M 6 5 + (-1) * x6_5) ∧ (z = 1 → 0 ≤ (-1) * (M 6 5) + x6_5) ∧ ((z = 1 ∧ Rch T x9_1 x6_3 c0 (2, p1 + 1, M 9 3, 0)) ∨ (z = 0 ∧ Rch T x9_1 x6_3 c0 (3, 0, M 6 5, M 6 4))) ∧ (TXP T M) ∧ (TCP T M)) = Q
  refine wk_c1 r166_0 (wk_is2 r166_1 rfl ?_)
  have c2_1564 : ∀ (k1564 : Nat) (M1249 : Mm) (v1246 : Int) (v1252 : Int) (v1256 : Int), (6 - v1246).toNat = k1564 → Pw M1249 → Fr fm_m7166_6v2 M0 M1249 → M1249 9 3 = v1252 → M1249 9 2 = v1256 → M1249 9 1 = x9_1 → M1249 6 4 = x6_4 → M1249 6 5 = x6_5 → M1249 6 3 = x6_3 → 0 ≤ v1246 → v1246 ≤ 6 → 0 ≤ v1252 → v1252 ≤ 500 → 0 ≤ v1256 → v1256 ≤ 500 → (TXP T M1249) → (TCP T M1249) → 0 ≤ 1 * v1252 + (-1) * x9_3 → 0 ≤ 1 * x9_1 + (-1) * v1252 → 0 ≤ 1 * x9_1 + (-1) * v1256 → 0 ≤ 1 * v1256 + (-1) * v1252 → 0 ≤ (-1) * v1246 + v1252 + 0 → 0 ≤ (-1) * v1246 + v1256 + 0 → 0 ≤ (-1) * v1252 + v1246 + 500 → 0 ≤ (-1) * v1252 + v1256 + 0 → 0 ≤ (-1) * v1256 + v1246 + 500 → 0 ≤ (-1) * v1256 + v1252 + 500 → (Rch T x9_1 x6_3 c0 (1, p1 + 1, v1252, v1246)) → Wp B (d + 25) 166 2 [some (R 6), some (I p1), some (I v1246), none] [] M1249 Q := by
    refine lp_ind ?_
    intro k1564 ih1564 M1249 v1246 v1252 v1256 hk1564 hP1250 hF1251 e1255 e1259 e1260 e1261 e1262 e1263 h1247 h1248 h1253 h1254 h1257 h1258 pr1264 pr1265 h1266 h1267 h1268 h1269 h1270 h1271 h1272 h1273 h1274 h1275 ti1276
    refine wk_il2 r166_2 (wk_c2 r166_3 ?_)
    refine wk_icge r166_5 ⟨by omega, by omega⟩ (by decide) ?_ ?_
    · intro h1277
      refine wk_al0 r166_23 (wk_getfr r166_24 fd_6_0 (br_6_0 hP1250) (wk_c8 r166_27 (wk_cv2 r166_29 kc_9_239 rfl (m7239_9 _ M1249 4119 x9_1 v1252 T hP1250 (by decide) e1260 (by first | with_reducible assumption | omega) (by first | with_reducible assumption | omega) e1255 (by first | with_reducible assumption | omega) (by first | with_reducible assumption | omega) (by first | assumption | omega | (unfold stepok; omega)) pr1264 pr1265) (cqI ?_))))
      rintro v1283 M1278 ⟨hP1279, hQ1280, h1284, h1285, xh1282⟩
      obtain rfl := Fr.same hQ1280
      rw [show wix 4119 = 14 from rfl] at xh1282
      refine wk_ifeq r166_32 ⟨by omega, by omega⟩ ?_ ?_
      · intro h1286
        refine wk_al0 r166_41 (wk_getfr r166_42 fd_6_0 (br_6_0 hP1250) (wk_c2 r166_45 (wk_cv2 r166_47 kc_9_238 rfl (m7238_9 _ M1249 40 x9_1 v1252 T hP1250 (by decide) (by decide) e1260 (by first | with_reducible assumption | omega) (by first | with_reducible assumption | omega) e1255 (by first | with_reducible assumption | omega) (by first | with_reducible assumption | omega) pr1264 pr1265) (cqI ?_))))
        rintro v1292 M1287 ⟨hP1288, hQ1289, h1293, h1294, xh1291⟩
        obtain rfl := Fr.same hQ1289
        refine wk_ifeq r166_50 ⟨by omega, by omega⟩ ?_ ?_
        · intro h1295
          refine wk_al0 r166_61 (wk_il1 r166_62 ?_)
          refine wk_cv2 r166_63 kc_6_153 rfl (m7153_6v2 _ M1249 p1 x9_1 v1252 v1256 x6_4 x6_5 x6_3 T c0 v1246 hP1250 (by first | with_reducible assumption | omega) (by first | with_reducible assumption | omega) e1260 (by first | with_reducible assumption | omega) (by first | with_reducible assumption | omega) e1255 (by first | with_reducible assumption | omega) (by first | with_reducible assumption | omega) e1259 (by first | with_reducible assumption | omega) (by first | with_reducible assumption | omega) e1261 (by first | with_reducible assumption | omega) (by first | with_reducible assumption | omega) e1262 (by first | with_reducible assumption | omega) (by first | with_reducible assumption | omega) e1263 (by first | with_reducible assumption | omega) (by first | with_reducible assumption | omega) (by omega) (by omega) (by omega) (ti1276) (by omega) (by omega) pr1264 pr1265) (cqI ?_)
          rintro v1313 M1296 ⟨hP1297, hQ1298, h1314, h1315, h1300, h1301, h1302, h1303, h1304, h1305, h1306, h1307, h1308, h1309, xh1310, pr1311, pr1312⟩
          have hF1299 : Fr fm_m7166_6v2 M0 M1296 := hF1251.tr hQ1298 rfl
          obtain ⟨v1316, e1317⟩ : ∃ v, M1296 9 3 = v := ⟨_, rfl⟩
          have h1318 := (bf_9_3 hP1297).1; rw [e1317] at h1318
          have h1319 := (bf_9_3 hP1297).2; rw [e1317] at h1319
          obtain ⟨v1320, e1321⟩ : ∃ v, M1296 9 2 = v := ⟨_, rfl⟩
          have h1322 := (bf_9_2 hP1297).1; rw [e1321] at h1322
          have h1323 := (bf_9_2 hP1297).2; rw [e1321] at h1323
          obtain ⟨v1324, e1325⟩ : ∃ v, M1296 6 4 = v := ⟨_, rfl⟩
          have h1326 := (bf_6_4 hP1297).1; rw [e1325] at h1326
          have h1327 := (bf_6_4 hP1297).2; rw [e1325] at h1327
          obtain ⟨v1328, e1329⟩ : ∃ v, M1296 6 5 = v := ⟨_, rfl⟩
          have h1330 := (bf_6_5 hP1297).1; rw [e1329] at h1330
          have h1331 := (bf_6_5 hP1297).2; rw [e1329] at h1331
          refine wk_is3 r166_66 rfl (wk_il3 r166_67 ?_)
          refine wk_ifeq r166_68 ⟨by omega, by omega⟩ ?_ ?_
          · intro h1332
            refine wk_c1 r166_90 ?_
            subst hQ; exact wk_zret r166_91 (by decide) (⟨rfl, _, rfl, hP1297, hF1299, by omega, by omega, by have := e1317; omega, by have := e1317; omega, by have := e1321; omega, by have := e1321; have := e1317; omega, by have := e1325; omega, by have := e1329; omega, by omega, by omega, by omega, by omega, Or.inr ⟨by omega, by rw [e1329, e1325]; exact F_k (or_r xh1310 (by omega)) (by omega) (by omega)⟩, pr1311, pr1312⟩)
          · intro h1333
            refine wk_il2 r166_71 (wk_c1 r166_72 (wk_iandc 1 2 r166_73 ⟨rfl, by decide⟩ rfl ?_))
            refine wk_ifeq r166_74 ⟨by omega, by omega⟩ ?_ ?_
            · intro h1335
              refine wk_c1 r166_86 (wk_goto r166_87 ?_)
              subst hQ; exact wk_zret r166_91 (by decide) (⟨rfl, _, rfl, hP1297, hF1299, by omega, by omega, by have := e1317; omega, by have := e1317; omega, by have := e1321; omega, by have := e1321; have := e1317; omega, by have := e1325; omega, by have := e1329; omega, by have := e1325; omega, by have := e1325; omega, by have := e1329; omega, by have := e1329; omega, Or.inl ⟨by omega, by rw [e1317]; exact X_k (or_l xh1310 (by omega)) (by omega)⟩, pr1311, pr1312⟩)
            · intro h1336
              exfalso
              omega
        · intro h1337
          refine wk_al0 r166_53 (wk_il1 r166_54 ?_)
          refine wk_cv2 r166_55 kc_6_168 rfl (m7168_6v2 _ M1249 p1 x9_1 v1252 v1256 x6_4 x6_5 x6_3 T c0 hP1250 (by first | with_reducible assumption | omega) (by first | with_reducible assumption | omega) e1260 (by first | with_reducible assumption | omega) (by first | with_reducible assumption | omega) e1255 (by first | with_reducible assumption | omega) (by first | with_reducible assumption | omega) e1259 (by first | with_reducible assumption | omega) (by first | with_reducible assumption | omega) e1261 (by first | with_reducible assumption | omega) (by first | with_reducible assumption | omega) e1262 (by first | with_reducible assumption | omega) (by first | with_reducible assumption | omega) e1263 (by first | with_reducible assumption | omega) (by first | with_reducible assumption | omega) (by omega) (by omega) (by omega) (PX_p ti1276 (by omega)) pr1264 pr1265) (cqI ?_)
          rintro v1355 M1338 ⟨hP1339, hQ1340, h1356, h1357, h1342, h1343, h1344, h1345, h1346, h1347, h1348, h1349, h1350, h1351, xh1352, pr1353, pr1354⟩
          have hF1341 : Fr fm_m7166_6v2 M0 M1338 := hF1251.tr hQ1340 rfl
          obtain ⟨v1358, e1359⟩ : ∃ v, M1338 9 3 = v := ⟨_, rfl⟩
          have h1360 := (bf_9_3 hP1339).1; rw [e1359] at h1360
          have h1361 := (bf_9_3 hP1339).2; rw [e1359] at h1361
          obtain ⟨v1362, e1363⟩ : ∃ v, M1338 9 2 = v := ⟨_, rfl⟩
          have h1364 := (bf_9_2 hP1339).1; rw [e1363] at h1364
          have h1365 := (bf_9_2 hP1339).2; rw [e1363] at h1365
          obtain ⟨v1366, e1367⟩ : ∃ v, M1338 6 4 = v := ⟨_, rfl⟩
          have h1368 := (bf_6_4 hP1339).1; rw [e1367] at h1368
          have h1369 := (bf_6_4 hP1339).2; rw [e1367] at h1369
          obtain ⟨v1370, e1371⟩ : ∃ v, M1338 6 5 = v := ⟨_, rfl⟩
          have h1372 := (bf_6_5 hP1339).1; rw [e1371] at h1372
          have h1373 := (bf_6_5 hP1339).2; rw [e1371] at h1373
          refine wk_goto r166_58 ?_
          refine wk_is3 r166_66 rfl (wk_il3 r166_67 ?_)
          refine wk_ifeq r166_68 ⟨by omega, by omega⟩ ?_ ?_
          · intro h1374
            refine wk_c1 r166_90 ?_
            subst hQ; exact wk_zret r166_91 (by decide) (⟨rfl, _, rfl, hP1339, hF1341, by omega, by omega, by have := e1359; omega, by have := e1359; omega, by have := e1363; omega, by have := e1363; have := e1359; omega, by have := e1367; omega, by have := e1371; omega, by omega, by omega, by omega, by omega, Or.inr ⟨by omega, by rw [e1371, e1367]; exact F_k (or_r xh1352 (by omega)) (by omega) (by omega)⟩, pr1353, pr1354⟩)
          · intro h1375
            refine wk_il2 r166_71 (wk_c1 r166_72 (wk_iandc 1 2 r166_73 ⟨rfl, by decide⟩ rfl ?_))
            refine wk_ifeq r166_74 ⟨by omega, by omega⟩ ?_ ?_
            · intro h1377
              refine wk_c1 r166_86 (wk_goto r166_87 ?_)
              subst hQ; exact wk_zret r166_91 (by decide) (⟨rfl, _, rfl, hP1339, hF1341, by omega, by omega, by have := e1359; omega, by have := e1359; omega, by have := e1363; omega, by have := e1363; have := e1359; omega, by have := e1367; omega, by have := e1371; omega, by have := e1367; omega, by have := e1367; omega, by have := e1371; omega, by have := e1371; omega, Or.inl ⟨by omega, by rw [e1359]; exact X_k (or_l xh1352 (by omega)) (by omega)⟩, pr1353, pr1354⟩)
            · intro h1378
              exfalso
              omega
      · intro h1379
        refine wk_al0 r166_35 (wk_c1 r166_36 (wk_cv2 r166_37 kc_6_159 rfl (m7159_6 _ M1249 2 v1252 hP1250 (by decide) (by decide) e1255 (by first | with_reducible assumption | omega) (by first | with_reducible assumption | omega)) (cqI ?_)))
        rintro v1388 M1380 ⟨hP1381, hQ1382, h1389, h1390, h1384, h1385, h1386, h1387⟩
        have hF1383 : Fr fm_m7166_6v2 M0 M1380 := hF1251.tr hQ1382 rfl
        obtain ⟨v1391, e1392⟩ : ∃ v, M1380 6 4 = v := ⟨_, rfl⟩
        have h1393 := (bf_6_4 hP1381).1; rw [e1392] at h1393
        have h1394 := (bf_6_4 hP1381).2; rw [e1392] at h1394
        obtain ⟨v1395, e1396⟩ : ∃ v, M1380 6 5 = v := ⟨_, rfl⟩
        have h1397 := (bf_6_5 hP1381).1; rw [e1396] at h1397
        have h1398 := (bf_6_5 hP1381).2; rw [e1396] at h1398
        subst hQ; exact wk_zret r166_40 ⟨by omega, by omega⟩ (⟨rfl, _, rfl, hP1381, hF1383, by omega, by omega, by have := ((hQ1382.at g_9_3 rfl).trans e1255); omega, by have := ((hQ1382.at g_9_3 rfl).trans e1255); omega, by have := ((hQ1382.at g_9_2 rfl).trans e1259); omega, by have := ((hQ1382.at g_9_2 rfl).trans e1259); have := ((hQ1382.at g_9_3 rfl).trans e1255); omega, by have := e1392; omega, by have := e1396; omega, by omega, by omega, by omega, by omega, Or.inr ⟨by omega, by rw [e1396, e1392]; exact O_6 ti1276 (by omega) (by omega) (by omega) (by omega)⟩, (TXP_sm (Sm.fr hQ1382 rfl) pr1264), (TCP_sm (Sm.fr hQ1382 rfl) pr1265)⟩)
    · intro h1399
      refine wk_al0 r166_8 (wk_c8 r166_9 (wk_cv2 r166_11 kc_6_175 rfl (m7175_6 _ M1249 4119 x9_1 v1252 v1256 T hP1250 (by decide) e1260 (by first | with_reducible assumption | omega) (by first | with_reducible assumption | omega) e1255 (by first | with_reducible assumption | omega) (by first | with_reducible assumption | omega) e1259 (by first | with_reducible assumption | omega) (by first | with_reducible assumption | omega) (by omega) (by omega) (by omega) (by first | assumption | omega | (unfold stepok; omega)) pr1264 pr1265) (cqI ?_)))
      rintro v1412 M1400 ⟨hP1401, hQ1402, h1413, h1414, h1404, h1405, h1406, h1407, h1408, xh1409, pr1410, pr1411⟩
      have hF1403 : Fr fm_m7166_6v2 M0 M1400 := hF1251.tr hQ1402 rfl
      obtain ⟨v1415, e1416⟩ : ∃ v, M1400 9 3 = v := ⟨_, rfl⟩
      have h1417 := (bf_9_3 hP1401).1; rw [e1416] at h1417
      have h1418 := (bf_9_3 hP1401).2; rw [e1416] at h1418
      obtain ⟨v1419, e1420⟩ : ∃ v, M1400 9 2 = v := ⟨_, rfl⟩
      have h1421 := (bf_9_2 hP1401).1; rw [e1420] at h1421
      have h1422 := (bf_9_2 hP1401).2; rw [e1420] at h1422
      rw [show wix 4119 = 14 from rfl] at xh1409
      refine wk_ifeq r166_14 ⟨by omega, by omega⟩ ?_ ?_
      · intro h1423
        obtain rfl : v1252 = v1415 := by omega
        obtain rfl : v1256 = v1419 := by omega
        refine wk_al0 r166_23 (wk_getfr r166_24 fd_6_0 (br_6_0 hP1401) (wk_c8 r166_27 (wk_cv2 r166_29 kc_9_239 rfl (m7239_9 _ M1400 4119 x9_1 v1252 T hP1401 (by decide) ((hQ1402.at g_9_1 rfl).trans e1260) (by first | with_reducible assumption | omega) (by first | with_reducible assumption | omega) e1416 (by first | with_reducible assumption | omega) (by first | with_reducible assumption | omega) (by first | assumption | omega | (unfold stepok; omega)) pr1410 pr1411) (cqI ?_))))
        rintro v1429 M1424 ⟨hP1425, hQ1426, h1430, h1431, xh1428⟩
        obtain rfl := Fr.same hQ1426
        rw [show wix 4119 = 14 from rfl] at xh1428
        refine wk_ifeq r166_32 ⟨by omega, by omega⟩ ?_ ?_
        · intro h1432
          refine wk_al0 r166_41 (wk_getfr r166_42 fd_6_0 (br_6_0 hP1401) (wk_c2 r166_45 (wk_cv2 r166_47 kc_9_238 rfl (m7238_9 _ M1400 40 x9_1 v1252 T hP1401 (by decide) (by decide) ((hQ1402.at g_9_1 rfl).trans e1260) (by first | with_reducible assumption | omega) (by first | with_reducible assumption | omega) e1416 (by first | with_reducible assumption | omega) (by first | with_reducible assumption | omega) pr1410 pr1411) (cqI ?_))))
          rintro v1438 M1433 ⟨hP1434, hQ1435, h1439, h1440, xh1437⟩
          obtain rfl := Fr.same hQ1435
          refine wk_ifeq r166_50 ⟨by omega, by omega⟩ ?_ ?_
          · intro h1441
            refine wk_al0 r166_61 (wk_il1 r166_62 ?_)
            refine wk_cv2 r166_63 kc_6_153 rfl (m7153_6v2 _ M1400 p1 x9_1 v1252 v1256 x6_4 x6_5 x6_3 T c0 v1246 hP1401 (by first | with_reducible assumption | omega) (by first | with_reducible assumption | omega) ((hQ1402.at g_9_1 rfl).trans e1260) (by first | with_reducible assumption | omega) (by first | with_reducible assumption | omega) e1416 (by first | with_reducible assumption | omega) (by first | with_reducible assumption | omega) e1420 (by first | with_reducible assumption | omega) (by first | with_reducible assumption | omega) ((hQ1402.at g_6_4 rfl).trans e1261) (by first | with_reducible assumption | omega) (by first | with_reducible assumption | omega) ((hQ1402.at g_6_5 rfl).trans e1262) (by first | with_reducible assumption | omega) (by first | with_reducible assumption | omega) ((hQ1402.at g_6_3 rfl).trans e1263) (by first | with_reducible assumption | omega) (by first | with_reducible assumption | omega) (by omega) (by omega) (by omega) (ti1276) (by omega) (by omega) pr1410 pr1411) (cqI ?_)
            rintro v1459 M1442 ⟨hP1443, hQ1444, h1460, h1461, h1446, h1447, h1448, h1449, h1450, h1451, h1452, h1453, h1454, h1455, xh1456, pr1457, pr1458⟩
            have hF1445 : Fr fm_m7166_6v2 M0 M1442 := hF1403.tr hQ1444 rfl
            obtain ⟨v1462, e1463⟩ : ∃ v, M1442 9 3 = v := ⟨_, rfl⟩
            have h1464 := (bf_9_3 hP1443).1; rw [e1463] at h1464
            have h1465 := (bf_9_3 hP1443).2; rw [e1463] at h1465
            obtain ⟨v1466, e1467⟩ : ∃ v, M1442 9 2 = v := ⟨_, rfl⟩
            have h1468 := (bf_9_2 hP1443).1; rw [e1467] at h1468
            have h1469 := (bf_9_2 hP1443).2; rw [e1467] at h1469
            obtain ⟨v1470, e1471⟩ : ∃ v, M1442 6 4 = v := ⟨_, rfl⟩
            have h1472 := (bf_6_4 hP1443).1; rw [e1471] at h1472
            have h1473 := (bf_6_4 hP1443).2; rw [e1471] at h1473
            obtain ⟨v1474, e1475⟩ : ∃ v, M1442 6 5 = v := ⟨_, rfl⟩
            have h1476 := (bf_6_5 hP1443).1; rw [e1475] at h1476
            have h1477 := (bf_6_5 hP1443).2; rw [e1475] at h1477
            refine wk_is3 r166_66 rfl (wk_il3 r166_67 ?_)
            refine wk_ifeq r166_68 ⟨by omega, by omega⟩ ?_ ?_
            · intro h1478
              refine wk_c1 r166_90 ?_
              subst hQ; exact wk_zret r166_91 (by decide) (⟨rfl, _, rfl, hP1443, hF1445, by omega, by omega, by have := e1463; omega, by have := e1463; omega, by have := e1467; omega, by have := e1467; have := e1463; omega, by have := e1471; omega, by have := e1475; omega, by omega, by omega, by omega, by omega, Or.inr ⟨by omega, by rw [e1475, e1471]; exact F_k (or_r xh1456 (by omega)) (by omega) (by omega)⟩, pr1457, pr1458⟩)
            · intro h1479
              refine wk_il2 r166_71 (wk_c1 r166_72 (wk_iandc 1 2 r166_73 ⟨rfl, by decide⟩ rfl ?_))
              refine wk_ifeq r166_74 ⟨by omega, by omega⟩ ?_ ?_
              · intro h1481
                refine wk_c1 r166_86 (wk_goto r166_87 ?_)
                subst hQ; exact wk_zret r166_91 (by decide) (⟨rfl, _, rfl, hP1443, hF1445, by omega, by omega, by have := e1463; omega, by have := e1463; omega, by have := e1467; omega, by have := e1467; have := e1463; omega, by have := e1471; omega, by have := e1475; omega, by have := e1471; omega, by have := e1471; omega, by have := e1475; omega, by have := e1475; omega, Or.inl ⟨by omega, by rw [e1463]; exact X_k (or_l xh1456 (by omega)) (by omega)⟩, pr1457, pr1458⟩)
              · intro h1482
                refine wk_al0 r166_77 (wk_c1 r166_78 (wk_c1 r166_79 (wk_cv3 r166_80 kc_6_172 rfl (m7172_6 _ M1442 1 0 hP1443 (by decide) (by decide) (by decide) (by decide) (by first | assumption | omega | (unfold stepok; omega))) (cqI ?_))))
                rintro v1487 M1483 ⟨hP1484, hQ1485, h1488, h1489⟩
                have hF1486 : Fr fm_m7166_6v2 M0 M1483 := hF1445.tr hQ1485 rfl
                refine wk_ifeq r166_83 ⟨by omega, by omega⟩ ?_ ?_
                · intro h1490
                  exfalso
                  omega
                · intro h1491
                  refine wk_c1 r166_86 (wk_goto r166_87 ?_)
                  subst hQ; exact wk_zret r166_91 (by decide) (⟨rfl, _, rfl, hP1484, hF1486, by omega, by omega, by have := ((hQ1485.at g_9_3 rfl).trans e1463); omega, by have := ((hQ1485.at g_9_3 rfl).trans e1463); omega, by have := ((hQ1485.at g_9_2 rfl).trans e1467); omega, by have := ((hQ1485.at g_9_2 rfl).trans e1467); have := ((hQ1485.at g_9_3 rfl).trans e1463); omega, by have := ((hQ1485.at g_6_4 rfl).trans e1471); omega, by have := ((hQ1485.at g_6_5 rfl).trans e1475); omega, by have := ((hQ1485.at g_6_4 rfl).trans e1471); omega, by have := ((hQ1485.at g_6_4 rfl).trans e1471); omega, by have := ((hQ1485.at g_6_5 rfl).trans e1475); omega, by have := ((hQ1485.at g_6_5 rfl).trans e1475); omega, Or.inl ⟨by omega, by rw [((hQ1485.at g_9_3 rfl).trans e1463)]; exact X_k (or_l xh1456 (by omega)) (by omega)⟩, (TXP_sm (Sm.fr hQ1485 rfl) pr1457), (TCP_sm (Sm.fr hQ1485 rfl) pr1458)⟩)
          · intro h1492
            refine wk_al0 r166_53 (wk_il1 r166_54 ?_)
            refine wk_cv2 r166_55 kc_6_168 rfl (m7168_6v2 _ M1400 p1 x9_1 v1252 v1256 x6_4 x6_5 x6_3 T c0 hP1401 (by first | with_reducible assumption | omega) (by first | with_reducible assumption | omega) ((hQ1402.at g_9_1 rfl).trans e1260) (by first | with_reducible assumption | omega) (by first | with_reducible assumption | omega) e1416 (by first | with_reducible assumption | omega) (by first | with_reducible assumption | omega) e1420 (by first | with_reducible assumption | omega) (by first | with_reducible assumption | omega) ((hQ1402.at g_6_4 rfl).trans e1261) (by first | with_reducible assumption | omega) (by first | with_reducible assumption | omega) ((hQ1402.at g_6_5 rfl).trans e1262) (by first | with_reducible assumption | omega) (by first | with_reducible assumption | omega) ((hQ1402.at g_6_3 rfl).trans e1263) (by first | with_reducible assumption | omega) (by first | with_reducible assumption | omega) (by omega) (by omega) (by omega) (PX_p ti1276 (by omega)) pr1410 pr1411) (cqI ?_)
            rintro v1510 M1493 ⟨hP1494, hQ1495, h1511, h1512, h1497, h1498, h1499, h1500, h1501, h1502, h1503, h1504, h1505, h1506, xh1507, pr1508, pr1509⟩
            have hF1496 : Fr fm_m7166_6v2 M0 M1493 := hF1403.tr hQ1495 rfl
            obtain ⟨v1513, e1514⟩ : ∃ v, M1493 9 3 = v := ⟨_, rfl⟩
            have h1515 := (bf_9_3 hP1494).1; rw [e1514] at h1515
            have h1516 := (bf_9_3 hP1494).2; rw [e1514] at h1516
            obtain ⟨v1517, e1518⟩ : ∃ v, M1493 9 2 = v := ⟨_, rfl⟩
            have h1519 := (bf_9_2 hP1494).1; rw [e1518] at h1519
            have h1520 := (bf_9_2 hP1494).2; rw [e1518] at h1520
            obtain ⟨v1521, e1522⟩ : ∃ v, M1493 6 4 = v := ⟨_, rfl⟩
            have h1523 := (bf_6_4 hP1494).1; rw [e1522] at h1523
            have h1524 := (bf_6_4 hP1494).2; rw [e1522] at h1524
            obtain ⟨v1525, e1526⟩ : ∃ v, M1493 6 5 = v := ⟨_, rfl⟩
            have h1527 := (bf_6_5 hP1494).1; rw [e1526] at h1527
            have h1528 := (bf_6_5 hP1494).2; rw [e1526] at h1528
            refine wk_goto r166_58 ?_
            refine wk_is3 r166_66 rfl (wk_il3 r166_67 ?_)
            refine wk_ifeq r166_68 ⟨by omega, by omega⟩ ?_ ?_
            · intro h1529
              refine wk_c1 r166_90 ?_
              subst hQ; exact wk_zret r166_91 (by decide) (⟨rfl, _, rfl, hP1494, hF1496, by omega, by omega, by have := e1514; omega, by have := e1514; omega, by have := e1518; omega, by have := e1518; have := e1514; omega, by have := e1522; omega, by have := e1526; omega, by omega, by omega, by omega, by omega, Or.inr ⟨by omega, by rw [e1526, e1522]; exact F_k (or_r xh1507 (by omega)) (by omega) (by omega)⟩, pr1508, pr1509⟩)
            · intro h1530
              refine wk_il2 r166_71 (wk_c1 r166_72 (wk_iandc 1 2 r166_73 ⟨rfl, by decide⟩ rfl ?_))
              refine wk_ifeq r166_74 ⟨by omega, by omega⟩ ?_ ?_
              · intro h1532
                refine wk_c1 r166_86 (wk_goto r166_87 ?_)
                subst hQ; exact wk_zret r166_91 (by decide) (⟨rfl, _, rfl, hP1494, hF1496, by omega, by omega, by have := e1514; omega, by have := e1514; omega, by have := e1518; omega, by have := e1518; have := e1514; omega, by have := e1522; omega, by have := e1526; omega, by have := e1522; omega, by have := e1522; omega, by have := e1526; omega, by have := e1526; omega, Or.inl ⟨by omega, by rw [e1514]; exact X_k (or_l xh1507 (by omega)) (by omega)⟩, pr1508, pr1509⟩)
              · intro h1533
                refine wk_al0 r166_77 (wk_c1 r166_78 (wk_c1 r166_79 (wk_cv3 r166_80 kc_6_172 rfl (m7172_6 _ M1493 1 0 hP1494 (by decide) (by decide) (by decide) (by decide) (by first | assumption | omega | (unfold stepok; omega))) (cqI ?_))))
                rintro v1538 M1534 ⟨hP1535, hQ1536, h1539, h1540⟩
                have hF1537 : Fr fm_m7166_6v2 M0 M1534 := hF1496.tr hQ1536 rfl
                refine wk_ifeq r166_83 ⟨by omega, by omega⟩ ?_ ?_
                · intro h1541
                  exfalso
                  omega
                · intro h1542
                  refine wk_c1 r166_86 (wk_goto r166_87 ?_)
                  subst hQ; exact wk_zret r166_91 (by decide) (⟨rfl, _, rfl, hP1535, hF1537, by omega, by omega, by have := ((hQ1536.at g_9_3 rfl).trans e1514); omega, by have := ((hQ1536.at g_9_3 rfl).trans e1514); omega, by have := ((hQ1536.at g_9_2 rfl).trans e1518); omega, by have := ((hQ1536.at g_9_2 rfl).trans e1518); have := ((hQ1536.at g_9_3 rfl).trans e1514); omega, by have := ((hQ1536.at g_6_4 rfl).trans e1522); omega, by have := ((hQ1536.at g_6_5 rfl).trans e1526); omega, by have := ((hQ1536.at g_6_4 rfl).trans e1522); omega, by have := ((hQ1536.at g_6_4 rfl).trans e1522); omega, by have := ((hQ1536.at g_6_5 rfl).trans e1526); omega, by have := ((hQ1536.at g_6_5 rfl).trans e1526); omega, Or.inl ⟨by omega, by rw [((hQ1536.at g_9_3 rfl).trans e1514)]; exact X_k (or_l xh1507 (by omega)) (by omega)⟩, (TXP_sm (Sm.fr hQ1536 rfl) pr1508), (TCP_sm (Sm.fr hQ1536 rfl) pr1509)⟩)
        · intro h1543
          refine wk_al0 r166_35 (wk_c1 r166_36 (wk_cv2 r166_37 kc_6_159 rfl (m7159_6 _ M1400 2 v1252 hP1401 (by decide) (by decide) e1416 (by first | with_reducible assumption | omega) (by first | with_reducible assumption | omega)) (cqI ?_)))
          rintro v1552 M1544 ⟨hP1545, hQ1546, h1553, h1554, h1548, h1549, h1550, h1551⟩
          have hF1547 : Fr fm_m7166_6v2 M0 M1544 := hF1403.tr hQ1546 rfl
          obtain ⟨v1555, e1556⟩ : ∃ v, M1544 6 4 = v := ⟨_, rfl⟩
          have h1557 := (bf_6_4 hP1545).1; rw [e1556] at h1557
          have h1558 := (bf_6_4 hP1545).2; rw [e1556] at h1558
          obtain ⟨v1559, e1560⟩ : ∃ v, M1544 6 5 = v := ⟨_, rfl⟩
          have h1561 := (bf_6_5 hP1545).1; rw [e1560] at h1561
          have h1562 := (bf_6_5 hP1545).2; rw [e1560] at h1562
          subst hQ; exact wk_zret r166_40 ⟨by omega, by omega⟩ (⟨rfl, _, rfl, hP1545, hF1547, by omega, by omega, by have := ((hQ1546.at g_9_3 rfl).trans e1416); omega, by have := ((hQ1546.at g_9_3 rfl).trans e1416); omega, by have := ((hQ1546.at g_9_2 rfl).trans e1420); omega, by have := ((hQ1546.at g_9_2 rfl).trans e1420); have := ((hQ1546.at g_9_3 rfl).trans e1416); omega, by have := e1556; omega, by have := e1560; omega, by omega, by omega, by omega, by omega, Or.inr ⟨by omega, by rw [e1560, e1556]; exact O_6 ti1276 (by omega) (by omega) (by omega) (by omega)⟩, (TXP_sm (Sm.fr hQ1546 rfl) pr1410), (TCP_sm (Sm.fr hQ1546 rfl) pr1411)⟩)
      · intro h1563
        refine wk_inc2 r166_17 rfl (wk_goto r166_20 ?_)
        exact wp_fg (le_s (le_s (le_s (le_s le_0)))) (ih1564 (6 - (v1246 + 1)).toNat (by omega) M1400 (v1246 + 1) v1415 v1419 rfl hP1401 hF1403 e1416 e1420 ((hQ1402.at g_9_1 rfl).trans e1260) ((hQ1402.at g_6_4 rfl).trans e1261) ((hQ1402.at g_6_5 rfl).trans e1262) ((hQ1402.at g_6_3 rfl).trans e1263) (by first | with_reducible assumption | omega) (by first | with_reducible assumption | omega) (by first | with_reducible assumption | omega) (by first | with_reducible assumption | omega) (by first | with_reducible assumption | omega) (by first | with_reducible assumption | omega) pr1410 pr1411 (by first | with_reducible assumption | omega) (by first | with_reducible assumption | omega) (by first | with_reducible assumption | omega) (by first | with_reducible assumption | omega) (by first | with_reducible assumption | omega) (by first | with_reducible assumption | omega) (by first | with_reducible assumption | omega) (by first | with_reducible assumption | omega) (by first | with_reducible assumption | omega) (by first | with_reducible assumption | omega) (O_n ti1276 (by omega) (by omega) (by omega) (by omega)))
  exact wp_fg (le_s (le_s (le_s (le_s le_0)))) (c2_1564 _ M0 0 x9_3 x9_2 rfl hP0 hF0 ex9_3 ex9_2 ex9_1 ex6_4 ex6_5 ex6_3 (by first | with_reducible assumption | omega) (by first | with_reducible assumption | omega) (by first | with_reducible assumption | omega) (by first | with_reducible assumption | omega) (by first | with_reducible assumption | omega) (by first | with_reducible assumption | omega) pp_TX pp_TC (by first | with_reducible assumption | omega) (by first | with_reducible assumption | omega) (by first | with_reducible assumption | omega) (by first | with_reducible assumption | omega) (by first | with_reducible assumption | omega) (by first | with_reducible assumption | omega) (by first | with_reducible assumption | omega) (by first | with_reducible assumption | omega) (by first | with_reducible assumption | omega) (by first | with_reducible assumption | omega) (xp0))
def fm_m7157_6v2 : Nat := 3941070043873280
/-- IslandHall$Parser.conjunction -/
theorem m7157_6v2 {B : eB} (d : Nat) (M0 : Mm) (p1 : Int) (x9_1 : Int) (x9_3 : Int) (x9_2 : Int) (x6_4 : Int) (x6_5 : Int) (x6_3 : Int) (T : Int → Int) (c0 : Cg) (hP0 : Pw M0) (l1 : 2 ≤ p1) (u1 : p1 ≤ 2) (ex9_1 : M0 9 1 = x9_1) (lx9_1 : 0 ≤ x9_1) (ux9_1 : x9_1 ≤ 500) (ex9_3 : M0 9 3 = x9_3) (lx9_3 : 0 ≤ x9_3) (ux9_3 : x9_3 ≤ 500) (ex9_2 : M0 9 2 = x9_2) (lx9_2 : 0 ≤ x9_2) (ux9_2 : x9_2 ≤ 500) (ex6_4 : M0 6 4 = x6_4) (lx6_4 : 0 ≤ x6_4) (ux6_4 : x6_4 ≤ 6) (ex6_5 : M0 6 5 = x6_5) (lx6_5 : (-1) ≤ x6_5) (ux6_5 : x6_5 ≤ 500) (ex6_3 : M0 6 3 = x6_3) (lx6_3 : (-1) ≤ x6_3) (ux6_3 : x6_3 ≤ 7) (rp0 : 0 ≤ x9_1 + (-1) * x9_2) (rp1 : 0 ≤ x9_2 + (-1) * x9_3) (rp2 : 0 ≤ x9_1 + (-1) * x9_3) (xp0 : Rch T x9_1 x6_3 c0 (1, p1 + 1, x9_3, 0)) (pp_TX : TXP T M0) (pp_TC : TCP T M0) : Ct B (d + 27) 157 [R 6, I p1] M0 (qI fun z M => Pw M ∧ Fr fm_m7157_6v2 M0 M ∧ 0 ≤ z ∧ z ≤ 1 ∧ 0 ≤ M 9 3 + (-1) * x9_3 ∧ 0 ≤ x9_1 + (-1) * (M 9 3) ∧ 0 ≤ x9_1 + (-1) * (M 9 2) ∧ 0 ≤ M 9 2 + (-1) * (M 9 3) ∧ 0 ≤ M 6 4 ∧ 0 ≤ M 6 5 + 1 ∧ (z = 1 → 0 ≤ M 6 4 + (-1) * x6_4) ∧ (z = 1 → 0 ≤ (-1) * (M 6 4) + x6_4) ∧ (z = 1 → 0 ≤ M 6 5 + (-1) * x6_5) ∧ (z = 1 → 0 ≤ (-1) * (M 6 5) + x6_5) ∧ ((z = 1 ∧ Rch T x9_1 x6_3 c0 (2, p1 + 1, M 9 3, 0) ∧ kw T x9_1 (M 9 3) ≠ 12) ∨ (z = 0 ∧ Rch T x9_1 x6_3 c0 (3, 0, M 6 5, M 6 4))) ∧ (TXP T M) ∧ (TCP T M)) := by
  refine ct_of (d := d + 26) (k := 1) (L := [some (R 6), some (I p1), none]) rfl rfl rfl ?_
  have hF0 := Fr.rf fm_m7157_6v2 M0
  generalize hQ : (qI fun z M => Pw M ∧ Fr fm_m7157_6v2 M0 M ∧ 0 ≤ z ∧ z ≤ 1 ∧ 0 ≤ M 9 3 + (-1) * x9_3 ∧ 0 ≤ x9_1 + (-1) * (M 9 3) ∧ 0 ≤ x9_1 + (-1) * (M 9 2) ∧ 0 ≤ M 9 2 + (-1) * (M 9 3) ∧ 0 ≤ M 6 4 ∧ 0 ≤ M 6 5 + 1 ∧ (z = 1 → 0 ≤ M 6 4 + (-1) * x6_4) ∧ (z = 1 → 0 ≤ (-1) * (M 6 4) + x6_4) ∧ (z = 1 → 0 ≤ M 6 5 + (-1) * x6_5) ∧ (z = 1 → 0 ≤ (-1) * (M 6 5) + x6_5) ∧ ((z = 1 ∧ Rch T x9_1 x6_3 c0 (2, p1 + 1, M 9 3, 0) ∧ kw T x9_1 (M 9 3) ≠ 12) ∨ (z = 0 ∧ Rch T x9_1 x6_3 c0 (3, 0, M 6 5, M 6 4))) ∧ (TXP T M) ∧ (TCP T M)) = Q
  refine wk_al0 r157_0 (wk_il1 r157_1 (wk_cv2 r157_2 kc_6_166 rfl (m7166_6v2 _ M0 p1 x9_1 x9_3 x9_2 x6_4 x6_5 x6_3 T c0 hP0 (by first | with_reducible assumption | omega) (by first | with_reducible assumption | omega) ex9_1 (by first | with_reducible assumption | omega) (by first | with_reducible assumption | omega) ex9_3 (by first | with_reducible assumption | omega) (by first | with_reducible assumption | omega) ex9_2 (by first | with_reducible assumption | omega) (by first | with_reducible assumption | omega) ex6_4 (by first | with_reducible assumption | omega) (by first | with_reducible assumption | omega) ex6_5 (by first | with_reducible assumption | omega) (by first | with_reducible assumption | omega) ex6_3 (by first | with_reducible assumption | omega) (by first | with_reducible assumption | omega) (by omega) (by omega) (by omega) (xp0) pp_TX pp_TC) (cqI ?_)))
  rintro v18 M1 ⟨hP2, hQ3, h19, h20, h5, h6, h7, h8, h9, h10, h11, h12, h13, h14, xh15, pr16, pr17⟩
  have hF4 : Fr fm_m7157_6v2 M0 M1 := hF0.tr hQ3 rfl
  obtain ⟨v21, e22⟩ : ∃ v, M1 9 3 = v := ⟨_, rfl⟩
  have h23 := (bf_9_3 hP2).1; rw [e22] at h23
  have h24 := (bf_9_3 hP2).2; rw [e22] at h24
  obtain ⟨v25, e26⟩ : ∃ v, M1 9 2 = v := ⟨_, rfl⟩
  have h27 := (bf_9_2 hP2).1; rw [e26] at h27
  have h28 := (bf_9_2 hP2).2; rw [e26] at h28
  obtain ⟨v29, e30⟩ : ∃ v, M1 6 4 = v := ⟨_, rfl⟩
  have h31 := (bf_6_4 hP2).1; rw [e30] at h31
  have h32 := (bf_6_4 hP2).2; rw [e30] at h32
  obtain ⟨v33, e34⟩ : ∃ v, M1 6 5 = v := ⟨_, rfl⟩
  have h35 := (bf_6_5 hP2).1; rw [e34] at h35
  have h36 := (bf_6_5 hP2).2; rw [e34] at h36
  refine wk_ifne r157_5 ⟨by omega, by omega⟩ ?_ ?_
  · intro h37
    refine wk_c1 r157_10 (wk_is2 r157_11 rfl ?_)
    have c12_1241 : ∀ (k1241 : Nat) (M1116 : Mm) (v1113 : Int) (v1119 : Int) (v1123 : Int) (v1127 : Int) (v1131 : Int), (500 - v1113).toNat = k1241 → Pw M1116 → Fr fm_m7157_6v2 M0 M1116 → M1116 9 3 = v1119 → M1116 9 2 = v1123 → M1116 6 4 = v1127 → M1116 6 5 = v1131 → M1116 9 1 = x9_1 → M1116 6 3 = x6_3 → 0 ≤ v1113 → v1113 ≤ 500 → 0 ≤ v1119 → v1119 ≤ 500 → 0 ≤ v1123 → v1123 ≤ 500 → 0 ≤ v1127 → v1127 ≤ 6 → (-1) ≤ v1131 → v1131 ≤ 500 → (TXP T M1116) → (TCP T M1116) → 0 ≤ 1 * v1119 + (-1) * x9_3 → 0 ≤ 1 * x9_1 + (-1) * v1119 → 0 ≤ 1 * x9_1 + (-1) * v1123 → 0 ≤ 1 * v1123 + (-1) * v1119 → 0 ≤ 1 * v1119 + (-1) * v1113 → 0 ≤ 1 * v1127 + (-1) * x6_4 → 0 ≤ (-1) * v1127 + 1 * x6_4 → 0 ≤ 1 * v1131 + (-1) * x6_5 → 0 ≤ (-1) * v1131 + 1 * x6_5 → 0 ≤ (-1) * v1113 + v1119 + 0 → 0 ≤ (-1) * v1113 + v1123 + 0 → 0 ≤ (-1) * v1119 + v1113 + 500 → 0 ≤ (-1) * v1119 + v1123 + 0 → 0 ≤ (-1) * v1119 + v1127 + 500 → 0 ≤ (-1) * v1119 + v1131 + 501 → 0 ≤ (-1) * v1123 + v1113 + 500 → 0 ≤ (-1) * v1123 + v1119 + 500 → 0 ≤ (-1) * v1123 + v1127 + 500 → 0 ≤ (-1) * v1123 + v1131 + 501 → 0 ≤ (-1) * v1127 + v1113 + 6 → 0 ≤ (-1) * v1127 + v1119 + 6 → 0 ≤ (-1) * v1127 + v1123 + 6 → 0 ≤ (-1) * v1127 + v1131 + 7 → 0 ≤ (-1) * v1131 + v1113 + 500 → 0 ≤ (-1) * v1131 + v1119 + 500 → 0 ≤ (-1) * v1131 + v1123 + 500 → 0 ≤ (-1) * v1131 + v1127 + 500 → (Rch T x9_1 x6_3 c0 (2, p1 + 1, v1119, 0)) → Wp B (d + 26) 157 12 [some (R 6), some (I p1), some (I v1113)] [] M1116 Q := by
      refine lp_ind ?_
      intro k1241 ih1241 M1116 v1113 v1119 v1123 v1127 v1131 hk1241 hP1117 hF1118 e1122 e1126 e1130 e1134 e1135 e1136 h1114 h1115 h1120 h1121 h1124 h1125 h1128 h1129 h1132 h1133 pr1137 pr1138 h1139 h1140 h1141 h1142 h1143 h1144 h1145 h1146 h1147 h1148 h1149 h1150 h1151 h1152 h1153 h1154 h1155 h1156 h1157 h1158 h1159 h1160 h1161 h1162 h1163 h1164 h1165 ti1166
      refine wk_il2 r157_12 (wk_c3 r157_13 ?_)
      refine wk_icge r157_16 ⟨by omega, by omega⟩ (by decide) ?_ ?_
      · intro h1167
        refine wk_c1 r157_53 ?_
        subst hQ; exact wk_zret r157_54 (by decide) (⟨rfl, _, rfl, hP1117, hF1118, by omega, by omega, by have := e1122; omega, by have := e1122; omega, by have := e1126; omega, by have := e1126; have := e1122; omega, by have := e1130; omega, by have := e1134; omega, by have := e1130; omega, by have := e1130; omega, by have := e1134; omega, by have := e1134; omega, Or.inl ⟨by omega, by rw [e1122]; exact ⟨X_k ti1166 (by omega), by have := kw_lt (T := T) (n := x9_1) (s := v1119); omega⟩⟩, pr1137, pr1138⟩)
      · intro h1168
        refine wk_al0 r157_19 (wk_c8 r157_20 (wk_cv2 r157_22 kc_6_175 rfl (m7175_6 _ M1116 4125 x9_1 v1119 v1123 T hP1117 (by decide) e1135 (by first | with_reducible assumption | omega) (by first | with_reducible assumption | omega) e1122 (by first | with_reducible assumption | omega) (by first | with_reducible assumption | omega) e1126 (by first | with_reducible assumption | omega) (by first | with_reducible assumption | omega) (by omega) (by omega) (by omega) (by first | assumption | omega | (unfold stepok; omega)) pr1137 pr1138) (cqI ?_)))
        rintro v1181 M1169 ⟨hP1170, hQ1171, h1182, h1183, h1173, h1174, h1175, h1176, h1177, xh1178, pr1179, pr1180⟩
        have hF1172 : Fr fm_m7157_6v2 M0 M1169 := hF1118.tr hQ1171 rfl
        obtain ⟨v1184, e1185⟩ : ∃ v, M1169 9 3 = v := ⟨_, rfl⟩
        have h1186 := (bf_9_3 hP1170).1; rw [e1185] at h1186
        have h1187 := (bf_9_3 hP1170).2; rw [e1185] at h1187
        obtain ⟨v1188, e1189⟩ : ∃ v, M1169 9 2 = v := ⟨_, rfl⟩
        have h1190 := (bf_9_2 hP1170).1; rw [e1189] at h1190
        have h1191 := (bf_9_2 hP1170).2; rw [e1189] at h1191
        rw [show wix 4125 = 12 from rfl] at xh1178
        refine wk_ifeq r157_25 ⟨by omega, by omega⟩ ?_ ?_
        · intro h1192
          obtain rfl : v1119 = v1184 := by omega
          obtain rfl : v1123 = v1188 := by omega
          refine wk_c1 r157_53 ?_
          subst hQ; exact wk_zret r157_54 (by decide) (⟨rfl, _, rfl, hP1170, hF1172, by omega, by omega, by have := e1185; omega, by have := e1185; omega, by have := e1189; omega, by have := e1189; have := e1185; omega, by have := ((hQ1171.at g_6_4 rfl).trans e1130); omega, by have := ((hQ1171.at g_6_5 rfl).trans e1134); omega, by have := ((hQ1171.at g_6_4 rfl).trans e1130); omega, by have := ((hQ1171.at g_6_4 rfl).trans e1130); omega, by have := ((hQ1171.at g_6_5 rfl).trans e1134); omega, by have := ((hQ1171.at g_6_5 rfl).trans e1134); omega, Or.inl ⟨by omega, by rw [e1185]; exact ⟨X_k ti1166 (by omega), by have := kw_lt (T := T) (n := x9_1) (s := v1119); omega⟩⟩, pr1179, pr1180⟩)
        · intro h1193
          have r2 : Rch T x9_1 x6_3 c0 (1, p1 + 1, v1184, 0) := X_o ti1166 (by omega) (by omega)
          refine wk_al0 r157_28 (wk_il1 r157_29 (wk_cv2 r157_30 kc_6_166 rfl (m7166_6v2 _ M1169 p1 x9_1 v1184 v1188 v1127 v1131 x6_3 T c0 hP1170 (by first | with_reducible assumption | omega) (by first | with_reducible assumption | omega) ((hQ1171.at g_9_1 rfl).trans e1135) (by first | with_reducible assumption | omega) (by first | with_reducible assumption | omega) e1185 (by first | with_reducible assumption | omega) (by first | with_reducible assumption | omega) e1189 (by first | with_reducible assumption | omega) (by first | with_reducible assumption | omega) ((hQ1171.at g_6_4 rfl).trans e1130) (by first | with_reducible assumption | omega) (by first | with_reducible assumption | omega) ((hQ1171.at g_6_5 rfl).trans e1134) (by first | with_reducible assumption | omega) (by first | with_reducible assumption | omega) ((hQ1171.at g_6_3 rfl).trans e1136) (by first | with_reducible assumption | omega) (by first | with_reducible assumption | omega) (by omega) (by omega) (by omega) (r2) pr1179 pr1180) (cqI ?_)))
          rintro v1211 M1194 ⟨hP1195, hQ1196, h1212, h1213, h1198, h1199, h1200, h1201, h1202, h1203, h1204, h1205, h1206, h1207, xh1208, pr1209, pr1210⟩
          have hF1197 : Fr fm_m7157_6v2 M0 M1194 := hF1172.tr hQ1196 rfl
          obtain ⟨v1214, e1215⟩ : ∃ v, M1194 9 3 = v := ⟨_, rfl⟩
          have h1216 := (bf_9_3 hP1195).1; rw [e1215] at h1216
          have h1217 := (bf_9_3 hP1195).2; rw [e1215] at h1217
          obtain ⟨v1218, e1219⟩ : ∃ v, M1194 9 2 = v := ⟨_, rfl⟩
          have h1220 := (bf_9_2 hP1195).1; rw [e1219] at h1220
          have h1221 := (bf_9_2 hP1195).2; rw [e1219] at h1221
          obtain ⟨v1222, e1223⟩ : ∃ v, M1194 6 4 = v := ⟨_, rfl⟩
          have h1224 := (bf_6_4 hP1195).1; rw [e1223] at h1224
          have h1225 := (bf_6_4 hP1195).2; rw [e1223] at h1225
          obtain ⟨v1226, e1227⟩ : ∃ v, M1194 6 5 = v := ⟨_, rfl⟩
          have h1228 := (bf_6_5 hP1195).1; rw [e1227] at h1228
          have h1229 := (bf_6_5 hP1195).2; rw [e1227] at h1229
          refine wk_ifeq r157_33 ⟨by omega, by omega⟩ ?_ ?_
          · intro h1230
            refine wk_c1 r157_45 ?_
            subst hQ; exact wk_zret r157_46 (by decide) (⟨rfl, _, rfl, hP1195, hF1197, by omega, by omega, by have := e1215; omega, by have := e1215; omega, by have := e1219; omega, by have := e1219; have := e1215; omega, by have := e1223; omega, by have := e1227; omega, by omega, by omega, by omega, by omega, Or.inr ⟨by omega, by rw [e1227, e1223]; exact F_k (or_r xh1208 (by omega)) (by omega) (by omega)⟩, pr1209, pr1210⟩)
          · intro h1231
            refine wk_al0 r157_36 (wk_c1 r157_37 (wk_c1 r157_38 (wk_cv3 r157_39 kc_6_172 rfl (m7172_6 _ M1194 2 0 hP1195 (by decide) (by decide) (by decide) (by decide) (by first | assumption | omega | (unfold stepok; omega))) (cqI ?_))))
            rintro v1236 M1232 ⟨hP1233, hQ1234, h1237, h1238⟩
            have hF1235 : Fr fm_m7157_6v2 M0 M1232 := hF1197.tr hQ1234 rfl
            refine wk_ifne r157_42 ⟨by omega, by omega⟩ ?_ ?_
            · intro h1239
              refine wk_inc2 r157_47 rfl (wk_goto r157_50 ?_)
              exact wp_fg (le_s (le_s (le_s le_0))) (ih1241 (500 - (v1113 + 1)).toNat (by omega) M1232 (v1113 + 1) v1214 v1218 v1222 v1226 rfl hP1233 hF1235 ((hQ1234.at g_9_3 rfl).trans e1215) ((hQ1234.at g_9_2 rfl).trans e1219) ((hQ1234.at g_6_4 rfl).trans e1223) ((hQ1234.at g_6_5 rfl).trans e1227) ((hQ1234.at g_9_1 rfl).trans ((hQ1196.at g_9_1 rfl).trans ((hQ1171.at g_9_1 rfl).trans e1135))) ((hQ1234.at g_6_3 rfl).trans ((hQ1196.at g_6_3 rfl).trans ((hQ1171.at g_6_3 rfl).trans e1136))) (by first | with_reducible assumption | omega) (by first | with_reducible assumption | omega) (by first | with_reducible assumption | omega) (by first | with_reducible assumption | omega) (by first | with_reducible assumption | omega) (by first | with_reducible assumption | omega) (by first | with_reducible assumption | omega) (by first | with_reducible assumption | omega) (by first | with_reducible assumption | omega) (by first | with_reducible assumption | omega) (TXP_sm (Sm.fr hQ1234 rfl) pr1209) (TCP_sm (Sm.fr hQ1234 rfl) pr1210) (by first | with_reducible assumption | omega) (by first | with_reducible assumption | omega) (by first | with_reducible assumption | omega) (by first | with_reducible assumption | omega) (by first | with_reducible assumption | omega) (by first | with_reducible assumption | omega) (by first | with_reducible assumption | omega) (by first | with_reducible assumption | omega) (by first | with_reducible assumption | omega) (by first | with_reducible assumption | omega) (by first | with_reducible assumption | omega) (by first | with_reducible assumption | omega) (by first | with_reducible assumption | omega) (by first | with_reducible assumption | omega) (by first | with_reducible assumption | omega) (by first | with_reducible assumption | omega) (by first | with_reducible assumption | omega) (by first | with_reducible assumption | omega) (by first | with_reducible assumption | omega) (by first | with_reducible assumption | omega) (by first | with_reducible assumption | omega) (by first | with_reducible assumption | omega) (by first | with_reducible assumption | omega) (by first | with_reducible assumption | omega) (by first | with_reducible assumption | omega) (by first | with_reducible assumption | omega) (by first | with_reducible assumption | omega) (X_k (or_l xh1208 (by omega)) (by omega)))
            · intro h1240
              exfalso
              omega
    exact wp_fg (le_s (le_s (le_s le_0))) (c12_1241 _ M1 0 v21 v25 v29 v33 rfl hP2 hF4 e22 e26 e30 e34 ((hQ3.at g_9_1 rfl).trans ex9_1) ((hQ3.at g_6_3 rfl).trans ex6_3) (by first | with_reducible assumption | omega) (by first | with_reducible assumption | omega) (by first | with_reducible assumption | omega) (by first | with_reducible assumption | omega) (by first | with_reducible assumption | omega) (by first | with_reducible assumption | omega) (by first | with_reducible assumption | omega) (by first | with_reducible assumption | omega) (by first | with_reducible assumption | omega) (by first | with_reducible assumption | omega) pr16 pr17 (by first | with_reducible assumption | omega) (by first | with_reducible assumption | omega) (by first | with_reducible assumption | omega) (by first | with_reducible assumption | omega) (by first | with_reducible assumption | omega) (by first | with_reducible assumption | omega) (by first | with_reducible assumption | omega) (by first | with_reducible assumption | omega) (by first | with_reducible assumption | omega) (by first | with_reducible assumption | omega) (by first | with_reducible assumption | omega) (by first | with_reducible assumption | omega) (by first | with_reducible assumption | omega) (by first | with_reducible assumption | omega) (by first | with_reducible assumption | omega) (by first | with_reducible assumption | omega) (by first | with_reducible assumption | omega) (by first | with_reducible assumption | omega) (by first | with_reducible assumption | omega) (by first | with_reducible assumption | omega) (by first | with_reducible assumption | omega) (by first | with_reducible assumption | omega) (by first | with_reducible assumption | omega) (by first | with_reducible assumption | omega) (by first | with_reducible assumption | omega) (by first | with_reducible assumption | omega) (by first | with_reducible assumption | omega) (X_k (or_l xh15 (by omega)) (by omega)))
  · intro h1242
    refine wk_c1 r157_8 ?_
    subst hQ; exact wk_zret r157_9 (by decide) (⟨rfl, _, rfl, hP2, hF4, by omega, by omega, by have := e22; omega, by have := e22; omega, by have := e26; omega, by have := e26; have := e22; omega, by have := e30; omega, by have := e34; omega, by omega, by omega, by omega, by omega, Or.inr ⟨by omega, by rw [e34, e30]; exact F_k (or_r xh15 (by omega)) (by omega) (by omega)⟩, pr16, pr17⟩)
def fm_m7158_6v2 : Nat := 3941070043873280
/-- IslandHall$Parser.expr -/
theorem m7158_6v2 {B : eB} (d : Nat) (M0 : Mm) (p1 : Int) (x9_1 : Int) (x9_3 : Int) (x9_2 : Int) (x6_4 : Int) (x6_5 : Int) (x6_3 : Int) (T : Int → Int) (c0 : Cg) (hP0 : Pw M0) (l1 : 2 ≤ p1) (u1 : p1 ≤ 2) (ex9_1 : M0 9 1 = x9_1) (lx9_1 : 0 ≤ x9_1) (ux9_1 : x9_1 ≤ 500) (ex9_3 : M0 9 3 = x9_3) (lx9_3 : 0 ≤ x9_3) (ux9_3 : x9_3 ≤ 500) (ex9_2 : M0 9 2 = x9_2) (lx9_2 : 0 ≤ x9_2) (ux9_2 : x9_2 ≤ 500) (ex6_4 : M0 6 4 = x6_4) (lx6_4 : 0 ≤ x6_4) (ux6_4 : x6_4 ≤ 6) (ex6_5 : M0 6 5 = x6_5) (lx6_5 : (-1) ≤ x6_5) (ux6_5 : x6_5 ≤ 500) (ex6_3 : M0 6 3 = x6_3) (lx6_3 : (-1) ≤ x6_3) (ux6_3 : x6_3 ≤ 7) (rp0 : 0 ≤ x9_1 + (-1) * x9_2) (rp1 : 0 ≤ x9_2 + (-1) * x9_3) (rp2 : 0 ≤ x9_1 + (-1) * x9_3) (xp0 : Rch T x9_1 x6_3 c0 (0, p1, x9_3, 0)) (pp_TX : TXP T M0) (pp_TC : TCP T M0) : Ct B (d + 28) 158 [R 6, I p1] M0 (qI fun z M => Pw M ∧ Fr fm_m7158_6v2 M0 M ∧ 0 ≤ z ∧ z ≤ 1 ∧ 0 ≤ M 9 3 + (-1) * x9_3 ∧ 0 ≤ x9_1 + (-1) * (M 9 3) ∧ 0 ≤ x9_1 + (-1) * (M 9 2) ∧ 0 ≤ M 9 2 + (-1) * (M 9 3) ∧ 0 ≤ M 6 4 ∧ 0 ≤ M 6 5 + 1 ∧ (z = 1 → 0 ≤ M 6 4 + (-1) * x6_4) ∧ (z = 1 → 0 ≤ (-1) * (M 6 4) + x6_4) ∧ (z = 1 → 0 ≤ M 6 5 + (-1) * x6_5) ∧ (z = 1 → 0 ≤ (-1) * (M 6 5) + x6_5) ∧ ((z = 1 ∧ Rch T x9_1 x6_3 c0 (2, p1 + 1, M 9 3, 0) ∧ kw T x9_1 (M 9 3) ≠ 12 ∧ kw T x9_1 (M 9 3) ≠ 13) ∨ (z = 0 ∧ Rch T x9_1 x6_3 c0 (3, 0, M 6 5, M 6 4))) ∧ (TXP T M) ∧ (TCP T M)) := by
  refine ct_of (d := d + 27) (k := 1) (L := [some (R 6), some (I p1), none]) rfl rfl rfl ?_
  have hF0 := Fr.rf fm_m7158_6v2 M0
  generalize hQ : (qI fun z M => Pw M ∧ Fr fm_m7158_6v2 M0 M ∧ 0 ≤ z ∧ z ≤ 1 ∧ 0 ≤ M 9 3 + (-1) * x9_3 ∧ 0 ≤ x9_1 + (-1) * (M 9 3) ∧ 0 ≤ x9_1 + (-1) * (M 9 2) ∧ 0 ≤ M 9 2 + (-1) * (M 9 3) ∧ 0 ≤ M 6 4 ∧ 0 ≤ M 6 5 + 1 ∧ (z = 1 → 0 ≤ M 6 4 + (-1) * x6_4) ∧ (z = 1 → 0 ≤ (-1) * (M 6 4) + x6_4) ∧ (z = 1 → 0 ≤ M 6 5 + (-1) * x6_5) ∧ (z = 1 → 0 ≤ (-1) * (M 6 5) + x6_5) ∧ ((z = 1 ∧ Rch T x9_1 x6_3 c0 (2, p1 + 1, M 9 3, 0) ∧ kw T x9_1 (M 9 3) ≠ 12 ∧ kw T x9_1 (M 9 3) ≠ 13) ∨ (z = 0 ∧ Rch T x9_1 x6_3 c0 (3, 0, M 6 5, M 6 4))) ∧ (TXP T M) ∧ (TCP T M)) = Q
  refine wk_al0 r158_0 (wk_cv1 r158_1 kc_6_155 rfl (m7155_6 _ M0 x9_1 x9_3 T hP0 ex9_1 (by first | with_reducible assumption | omega) (by first | with_reducible assumption | omega) ex9_3 (by first | with_reducible assumption | omega) (by first | with_reducible assumption | omega) pp_TX pp_TC) (cqI ?_))
  rintro v6 M1 ⟨hP2, hQ3, h7, h8, xh5⟩
  obtain rfl := Fr.same hQ3
  refine wk_ifne r158_4 ⟨by omega, by omega⟩ ?_ ?_
  · intro h9
    refine wk_il1 r158_13 (wk_c2 r158_14 ?_)
    refine wk_iclt r158_16 ⟨by omega, by omega⟩ (by decide) ?_ ?_
    · intro h10
      have r2 : Rch T x9_1 x6_3 c0 (1, p1 + 1, x9_3, 0) := E_b xp0 (by omega) (by omega) (by omega)
      refine wk_al0 r158_25 (wk_il1 r158_26 (wk_cv2 r158_27 kc_6_157 rfl (m7157_6v2 _ M0 p1 x9_1 x9_3 x9_2 x6_4 x6_5 x6_3 T c0 hP0 (by first | with_reducible assumption | omega) (by first | with_reducible assumption | omega) ex9_1 (by first | with_reducible assumption | omega) (by first | with_reducible assumption | omega) ex9_3 (by first | with_reducible assumption | omega) (by first | with_reducible assumption | omega) ex9_2 (by first | with_reducible assumption | omega) (by first | with_reducible assumption | omega) ex6_4 (by first | with_reducible assumption | omega) (by first | with_reducible assumption | omega) ex6_5 (by first | with_reducible assumption | omega) (by first | with_reducible assumption | omega) ex6_3 (by first | with_reducible assumption | omega) (by first | with_reducible assumption | omega) (by omega) (by omega) (by omega) (r2) pp_TX pp_TC) (cqI ?_)))
      rintro v28 M11 ⟨hP12, hQ13, h29, h30, h15, h16, h17, h18, h19, h20, h21, h22, h23, h24, xh25, pr26, pr27⟩
      have hF14 : Fr fm_m7158_6v2 M0 M11 := hF0.tr hQ13 rfl
      obtain ⟨v31, e32⟩ : ∃ v, M11 9 3 = v := ⟨_, rfl⟩
      have h33 := (bf_9_3 hP12).1; rw [e32] at h33
      have h34 := (bf_9_3 hP12).2; rw [e32] at h34
      obtain ⟨v35, e36⟩ : ∃ v, M11 9 2 = v := ⟨_, rfl⟩
      have h37 := (bf_9_2 hP12).1; rw [e36] at h37
      have h38 := (bf_9_2 hP12).2; rw [e36] at h38
      obtain ⟨v39, e40⟩ : ∃ v, M11 6 4 = v := ⟨_, rfl⟩
      have h41 := (bf_6_4 hP12).1; rw [e40] at h41
      have h42 := (bf_6_4 hP12).2; rw [e40] at h42
      obtain ⟨v43, e44⟩ : ∃ v, M11 6 5 = v := ⟨_, rfl⟩
      have h45 := (bf_6_5 hP12).1; rw [e44] at h45
      have h46 := (bf_6_5 hP12).2; rw [e44] at h46
      refine wk_ifne r158_30 ⟨by omega, by omega⟩ ?_ ?_
      · intro h47
        refine wk_c1 r158_35 (wk_is2 r158_36 rfl ?_)
        have c37_1251 : ∀ (k1251 : Nat) (M1126 : Mm) (v1123 : Int) (v1129 : Int) (v1133 : Int) (v1137 : Int) (v1141 : Int), (500 - v1123).toNat = k1251 → Pw M1126 → Fr fm_m7158_6v2 M0 M1126 → M1126 9 3 = v1129 → M1126 9 2 = v1133 → M1126 6 4 = v1137 → M1126 6 5 = v1141 → M1126 9 1 = x9_1 → M1126 6 3 = x6_3 → 0 ≤ v1123 → v1123 ≤ 500 → 0 ≤ v1129 → v1129 ≤ 500 → 0 ≤ v1133 → v1133 ≤ 500 → 0 ≤ v1137 → v1137 ≤ 6 → (-1) ≤ v1141 → v1141 ≤ 500 → (TXP T M1126) → (TCP T M1126) → 0 ≤ 1 * v1129 + (-1) * x9_3 → 0 ≤ 1 * x9_1 + (-1) * v1129 → 0 ≤ 1 * x9_1 + (-1) * v1133 → 0 ≤ 1 * v1133 + (-1) * v1129 → 0 ≤ 1 * v1129 + (-1) * v1123 → 0 ≤ 1 * v1137 + (-1) * x6_4 → 0 ≤ (-1) * v1137 + 1 * x6_4 → 0 ≤ 1 * v1141 + (-1) * x6_5 → 0 ≤ (-1) * v1141 + 1 * x6_5 → 0 ≤ (-1) * v1123 + v1129 + 0 → 0 ≤ (-1) * v1123 + v1133 + 0 → 0 ≤ (-1) * v1129 + v1123 + 500 → 0 ≤ (-1) * v1129 + v1133 + 0 → 0 ≤ (-1) * v1129 + v1137 + 500 → 0 ≤ (-1) * v1129 + v1141 + 501 → 0 ≤ (-1) * v1133 + v1123 + 500 → 0 ≤ (-1) * v1133 + v1129 + 500 → 0 ≤ (-1) * v1133 + v1137 + 500 → 0 ≤ (-1) * v1133 + v1141 + 501 → 0 ≤ (-1) * v1137 + v1123 + 6 → 0 ≤ (-1) * v1137 + v1129 + 6 → 0 ≤ (-1) * v1137 + v1133 + 6 → 0 ≤ (-1) * v1137 + v1141 + 7 → 0 ≤ (-1) * v1141 + v1123 + 500 → 0 ≤ (-1) * v1141 + v1129 + 500 → 0 ≤ (-1) * v1141 + v1133 + 500 → 0 ≤ (-1) * v1141 + v1137 + 500 → (Rch T x9_1 x6_3 c0 (2, p1 + 1, v1129, 0) ∧ kw T x9_1 v1129 ≠ 12) → Wp B (d + 27) 158 37 [some (R 6), some (I p1), some (I v1123)] [] M1126 Q := by
          refine lp_ind ?_
          intro k1251 ih1251 M1126 v1123 v1129 v1133 v1137 v1141 hk1251 hP1127 hF1128 e1132 e1136 e1140 e1144 e1145 e1146 h1124 h1125 h1130 h1131 h1134 h1135 h1138 h1139 h1142 h1143 pr1147 pr1148 h1149 h1150 h1151 h1152 h1153 h1154 h1155 h1156 h1157 h1158 h1159 h1160 h1161 h1162 h1163 h1164 h1165 h1166 h1167 h1168 h1169 h1170 h1171 h1172 h1173 h1174 h1175 ti1176
          refine wk_il2 r158_37 (wk_c3 r158_38 ?_)
          refine wk_icge r158_41 ⟨by omega, by omega⟩ (by decide) ?_ ?_
          · intro h1177
            refine wk_c1 r158_78 ?_
            subst hQ; exact wk_zret r158_79 (by decide) (⟨rfl, _, rfl, hP1127, hF1128, by omega, by omega, by have := e1132; omega, by have := e1132; omega, by have := e1136; omega, by have := e1136; have := e1132; omega, by have := e1140; omega, by have := e1144; omega, by have := e1140; omega, by have := e1140; omega, by have := e1144; omega, by have := e1144; omega, Or.inl ⟨by omega, by rw [e1132]; exact ⟨X_k (ti1176).1 (by omega), by have := kw_lt (T := T) (n := x9_1) (s := v1129); have := (ti1176).2; omega⟩⟩, pr1147, pr1148⟩)
          · intro h1178
            refine wk_al0 r158_44 (wk_c8 r158_45 (wk_cv2 r158_47 kc_6_175 rfl (m7175_6 _ M1126 4126 x9_1 v1129 v1133 T hP1127 (by decide) e1145 (by first | with_reducible assumption | omega) (by first | with_reducible assumption | omega) e1132 (by first | with_reducible assumption | omega) (by first | with_reducible assumption | omega) e1136 (by first | with_reducible assumption | omega) (by first | with_reducible assumption | omega) (by omega) (by omega) (by omega) (by first | assumption | omega | (unfold stepok; omega)) pr1147 pr1148) (cqI ?_)))
            rintro v1191 M1179 ⟨hP1180, hQ1181, h1192, h1193, h1183, h1184, h1185, h1186, h1187, xh1188, pr1189, pr1190⟩
            have hF1182 : Fr fm_m7158_6v2 M0 M1179 := hF1128.tr hQ1181 rfl
            obtain ⟨v1194, e1195⟩ : ∃ v, M1179 9 3 = v := ⟨_, rfl⟩
            have h1196 := (bf_9_3 hP1180).1; rw [e1195] at h1196
            have h1197 := (bf_9_3 hP1180).2; rw [e1195] at h1197
            obtain ⟨v1198, e1199⟩ : ∃ v, M1179 9 2 = v := ⟨_, rfl⟩
            have h1200 := (bf_9_2 hP1180).1; rw [e1199] at h1200
            have h1201 := (bf_9_2 hP1180).2; rw [e1199] at h1201
            rw [show wix 4126 = 13 from rfl] at xh1188
            refine wk_ifeq r158_50 ⟨by omega, by omega⟩ ?_ ?_
            · intro h1202
              obtain rfl : v1129 = v1194 := by omega
              obtain rfl : v1133 = v1198 := by omega
              refine wk_c1 r158_78 ?_
              subst hQ; exact wk_zret r158_79 (by decide) (⟨rfl, _, rfl, hP1180, hF1182, by omega, by omega, by have := e1195; omega, by have := e1195; omega, by have := e1199; omega, by have := e1199; have := e1195; omega, by have := ((hQ1181.at g_6_4 rfl).trans e1140); omega, by have := ((hQ1181.at g_6_5 rfl).trans e1144); omega, by have := ((hQ1181.at g_6_4 rfl).trans e1140); omega, by have := ((hQ1181.at g_6_4 rfl).trans e1140); omega, by have := ((hQ1181.at g_6_5 rfl).trans e1144); omega, by have := ((hQ1181.at g_6_5 rfl).trans e1144); omega, Or.inl ⟨by omega, by rw [e1195]; exact ⟨X_k (ti1176).1 (by omega), by have := kw_lt (T := T) (n := x9_1) (s := v1129); have := (ti1176).2; omega⟩⟩, pr1189, pr1190⟩)
            · intro h1203
              have r2 : Rch T x9_1 x6_3 c0 (1, p1 + 1, v1194, 0) := X_o (ti1176).1 (by omega) (by omega)
              refine wk_al0 r158_53 (wk_il1 r158_54 (wk_cv2 r158_55 kc_6_157 rfl (m7157_6v2 _ M1179 p1 x9_1 v1194 v1198 v1137 v1141 x6_3 T c0 hP1180 (by first | with_reducible assumption | omega) (by first | with_reducible assumption | omega) ((hQ1181.at g_9_1 rfl).trans e1145) (by first | with_reducible assumption | omega) (by first | with_reducible assumption | omega) e1195 (by first | with_reducible assumption | omega) (by first | with_reducible assumption | omega) e1199 (by first | with_reducible assumption | omega) (by first | with_reducible assumption | omega) ((hQ1181.at g_6_4 rfl).trans e1140) (by first | with_reducible assumption | omega) (by first | with_reducible assumption | omega) ((hQ1181.at g_6_5 rfl).trans e1144) (by first | with_reducible assumption | omega) (by first | with_reducible assumption | omega) ((hQ1181.at g_6_3 rfl).trans e1146) (by first | with_reducible assumption | omega) (by first | with_reducible assumption | omega) (by omega) (by omega) (by omega) (r2) pr1189 pr1190) (cqI ?_)))
              rintro v1221 M1204 ⟨hP1205, hQ1206, h1222, h1223, h1208, h1209, h1210, h1211, h1212, h1213, h1214, h1215, h1216, h1217, xh1218, pr1219, pr1220⟩
              have hF1207 : Fr fm_m7158_6v2 M0 M1204 := hF1182.tr hQ1206 rfl
              obtain ⟨v1224, e1225⟩ : ∃ v, M1204 9 3 = v := ⟨_, rfl⟩
              have h1226 := (bf_9_3 hP1205).1; rw [e1225] at h1226
              have h1227 := (bf_9_3 hP1205).2; rw [e1225] at h1227
              obtain ⟨v1228, e1229⟩ : ∃ v, M1204 9 2 = v := ⟨_, rfl⟩
              have h1230 := (bf_9_2 hP1205).1; rw [e1229] at h1230
              have h1231 := (bf_9_2 hP1205).2; rw [e1229] at h1231
              obtain ⟨v1232, e1233⟩ : ∃ v, M1204 6 4 = v := ⟨_, rfl⟩
              have h1234 := (bf_6_4 hP1205).1; rw [e1233] at h1234
              have h1235 := (bf_6_4 hP1205).2; rw [e1233] at h1235
              obtain ⟨v1236, e1237⟩ : ∃ v, M1204 6 5 = v := ⟨_, rfl⟩
              have h1238 := (bf_6_5 hP1205).1; rw [e1237] at h1238
              have h1239 := (bf_6_5 hP1205).2; rw [e1237] at h1239
              refine wk_ifeq r158_58 ⟨by omega, by omega⟩ ?_ ?_
              · intro h1240
                refine wk_c1 r158_70 ?_
                subst hQ; exact wk_zret r158_71 (by decide) (⟨rfl, _, rfl, hP1205, hF1207, by omega, by omega, by have := e1225; omega, by have := e1225; omega, by have := e1229; omega, by have := e1229; have := e1225; omega, by have := e1233; omega, by have := e1237; omega, by omega, by omega, by omega, by omega, Or.inr ⟨by omega, by rw [e1237, e1233]; exact F_k (or_r xh1218 (by omega)) (by omega) (by omega)⟩, pr1219, pr1220⟩)
              · intro h1241
                refine wk_al0 r158_61 (wk_c1 r158_62 (wk_c1 r158_63 (wk_cv3 r158_64 kc_6_172 rfl (m7172_6 _ M1204 3 0 hP1205 (by decide) (by decide) (by decide) (by decide) (by first | assumption | omega | (unfold stepok; omega))) (cqI ?_))))
                rintro v1246 M1242 ⟨hP1243, hQ1244, h1247, h1248⟩
                have hF1245 : Fr fm_m7158_6v2 M0 M1242 := hF1207.tr hQ1244 rfl
                refine wk_ifne r158_67 ⟨by omega, by omega⟩ ?_ ?_
                · intro h1249
                  refine wk_inc2 r158_72 rfl (wk_goto r158_75 ?_)
                  exact wp_fg (le_s (le_s (le_s le_0))) (ih1251 (500 - (v1123 + 1)).toNat (by omega) M1242 (v1123 + 1) v1224 v1228 v1232 v1236 rfl hP1243 hF1245 ((hQ1244.at g_9_3 rfl).trans e1225) ((hQ1244.at g_9_2 rfl).trans e1229) ((hQ1244.at g_6_4 rfl).trans e1233) ((hQ1244.at g_6_5 rfl).trans e1237) ((hQ1244.at g_9_1 rfl).trans ((hQ1206.at g_9_1 rfl).trans ((hQ1181.at g_9_1 rfl).trans e1145))) ((hQ1244.at g_6_3 rfl).trans ((hQ1206.at g_6_3 rfl).trans ((hQ1181.at g_6_3 rfl).trans e1146))) (by first | with_reducible assumption | omega) (by first | with_reducible assumption | omega) (by first | with_reducible assumption | omega) (by first | with_reducible assumption | omega) (by first | with_reducible assumption | omega) (by first | with_reducible assumption | omega) (by first | with_reducible assumption | omega) (by first | with_reducible assumption | omega) (by first | with_reducible assumption | omega) (by first | with_reducible assumption | omega) (TXP_sm (Sm.fr hQ1244 rfl) pr1219) (TCP_sm (Sm.fr hQ1244 rfl) pr1220) (by first | with_reducible assumption | omega) (by first | with_reducible assumption | omega) (by first | with_reducible assumption | omega) (by first | with_reducible assumption | omega) (by first | with_reducible assumption | omega) (by first | with_reducible assumption | omega) (by first | with_reducible assumption | omega) (by first | with_reducible assumption | omega) (by first | with_reducible assumption | omega) (by first | with_reducible assumption | omega) (by first | with_reducible assumption | omega) (by first | with_reducible assumption | omega) (by first | with_reducible assumption | omega) (by first | with_reducible assumption | omega) (by first | with_reducible assumption | omega) (by first | with_reducible assumption | omega) (by first | with_reducible assumption | omega) (by first | with_reducible assumption | omega) (by first | with_reducible assumption | omega) (by first | with_reducible assumption | omega) (by first | with_reducible assumption | omega) (by first | with_reducible assumption | omega) (by first | with_reducible assumption | omega) (by first | with_reducible assumption | omega) (by first | with_reducible assumption | omega) (by first | with_reducible assumption | omega) (by first | with_reducible assumption | omega) (⟨X_k (or_l xh1218 (by omega)).1 (by omega), by have q8 := (or_l xh1218 (by omega)).2; rw [e1225] at q8; exact q8⟩))
                · intro h1250
                  exfalso
                  omega
        exact wp_fg (le_s (le_s (le_s le_0))) (c37_1251 _ M11 0 v31 v35 v39 v43 rfl hP12 hF14 e32 e36 e40 e44 ((hQ13.at g_9_1 rfl).trans ex9_1) ((hQ13.at g_6_3 rfl).trans ex6_3) (by first | with_reducible assumption | omega) (by first | with_reducible assumption | omega) (by first | with_reducible assumption | omega) (by first | with_reducible assumption | omega) (by first | with_reducible assumption | omega) (by first | with_reducible assumption | omega) (by first | with_reducible assumption | omega) (by first | with_reducible assumption | omega) (by first | with_reducible assumption | omega) (by first | with_reducible assumption | omega) pr26 pr27 (by first | with_reducible assumption | omega) (by first | with_reducible assumption | omega) (by first | with_reducible assumption | omega) (by first | with_reducible assumption | omega) (by first | with_reducible assumption | omega) (by first | with_reducible assumption | omega) (by first | with_reducible assumption | omega) (by first | with_reducible assumption | omega) (by first | with_reducible assumption | omega) (by first | with_reducible assumption | omega) (by first | with_reducible assumption | omega) (by first | with_reducible assumption | omega) (by first | with_reducible assumption | omega) (by first | with_reducible assumption | omega) (by first | with_reducible assumption | omega) (by first | with_reducible assumption | omega) (by first | with_reducible assumption | omega) (by first | with_reducible assumption | omega) (by first | with_reducible assumption | omega) (by first | with_reducible assumption | omega) (by first | with_reducible assumption | omega) (by first | with_reducible assumption | omega) (by first | with_reducible assumption | omega) (by first | with_reducible assumption | omega) (by first | with_reducible assumption | omega) (by first | with_reducible assumption | omega) (by first | with_reducible assumption | omega) (⟨X_k (or_l xh25 (by omega)).1 (by omega), by have q8 := (or_l xh25 (by omega)).2; rw [e32] at q8; exact q8⟩))
      · intro h1252
        refine wk_c1 r158_33 ?_
        subst hQ; exact wk_zret r158_34 (by decide) (⟨rfl, _, rfl, hP12, hF14, by omega, by omega, by have := e32; omega, by have := e32; omega, by have := e36; omega, by have := e36; have := e32; omega, by have := e40; omega, by have := e44; omega, by omega, by omega, by omega, by omega, Or.inr ⟨by omega, by rw [e44, e40]; exact F_k (or_r xh25 (by omega)) (by omega) (by omega)⟩, pr26, pr27⟩)
    · intro h1253
      exfalso
      omega
  · intro h1254
    refine wk_al0 r158_7 (wk_c1 r158_8 (wk_cv2 r158_9 kc_6_159 rfl (m7159_6 _ M0 1 x9_3 hP0 (by decide) (by decide) ex9_3 (by first | with_reducible assumption | omega) (by first | with_reducible assumption | omega)) (cqI ?_)))
    rintro v1263 M1255 ⟨hP1256, hQ1257, h1264, h1265, h1259, h1260, h1261, h1262⟩
    have hF1258 : Fr fm_m7158_6v2 M0 M1255 := hF0.tr hQ1257 rfl
    obtain ⟨v1266, e1267⟩ : ∃ v, M1255 6 4 = v := ⟨_, rfl⟩
    have h1268 := (bf_6_4 hP1256).1; rw [e1267] at h1268
    have h1269 := (bf_6_4 hP1256).2; rw [e1267] at h1269
    obtain ⟨v1270, e1271⟩ : ∃ v, M1255 6 5 = v := ⟨_, rfl⟩
    have h1272 := (bf_6_5 hP1256).1; rw [e1271] at h1272
    have h1273 := (bf_6_5 hP1256).2; rw [e1271] at h1273
    subst hQ; exact wk_zret r158_12 ⟨by omega, by omega⟩ (⟨rfl, _, rfl, hP1256, hF1258, by omega, by omega, by have := ((hQ1257.at g_9_3 rfl).trans ex9_3); omega, by have := ((hQ1257.at g_9_3 rfl).trans ex9_3); omega, by have := ((hQ1257.at g_9_2 rfl).trans ex9_2); omega, by have := ((hQ1257.at g_9_2 rfl).trans ex9_2); have := ((hQ1257.at g_9_3 rfl).trans ex9_3); omega, by have := e1267; omega, by have := e1271; omega, by omega, by omega, by omega, by omega, Or.inr ⟨by omega, by rw [e1271, e1267]; exact E_n xp0 (by omega) (by omega) (by omega)⟩, (TXP_sm (Sm.fr hQ1257 rfl) pp_TX), (TCP_sm (Sm.fr hQ1257 rfl) pp_TC)⟩)
def fm_m7168_6v1 : Nat := 3941070043873280
/-- IslandHall$Parser.parenthesis -/
theorem m7168_6v1 {B : eB} (d : Nat) (M0 : Mm) (p1 : Int) (x9_1 : Int) (x9_3 : Int) (x9_2 : Int) (x6_4 : Int) (x6_5 : Int) (x6_3 : Int) (T : Int → Int) (c0 : Cg) (hP0 : Pw M0) (l1 : 1 ≤ p1) (u1 : p1 ≤ 1) (ex9_1 : M0 9 1 = x9_1) (lx9_1 : 0 ≤ x9_1) (ux9_1 : x9_1 ≤ 500) (ex9_3 : M0 9 3 = x9_3) (lx9_3 : 0 ≤ x9_3) (ux9_3 : x9_3 ≤ 500) (ex9_2 : M0 9 2 = x9_2) (lx9_2 : 0 ≤ x9_2) (ux9_2 : x9_2 ≤ 500) (ex6_4 : M0 6 4 = x6_4) (lx6_4 : 0 ≤ x6_4) (ux6_4 : x6_4 ≤ 6) (ex6_5 : M0 6 5 = x6_5) (lx6_5 : (-1) ≤ x6_5) (ux6_5 : x6_5 ≤ 500) (ex6_3 : M0 6 3 = x6_3) (lx6_3 : (-1) ≤ x6_3) (ux6_3 : x6_3 ≤ 7) (rp0 : 0 ≤ x9_1 + (-1) * x9_2) (rp1 : 0 ≤ x9_2 + (-1) * x9_3) (rp2 : 0 ≤ x9_1 + (-1) * x9_3) (xp0 : PX T x9_1 x6_3 c0 (p1 + 1) x9_3) (pp_TX : TXP T M0) (pp_TC : TCP T M0) : Ct B (d + 29) 168 [R 6, I p1] M0 (qI fun z M => Pw M ∧ Fr fm_m7168_6v1 M0 M ∧ 0 ≤ z ∧ z ≤ 1 ∧ 0 ≤ M 9 3 + (-1) * x9_3 ∧ 0 ≤ x9_1 + (-1) * (M 9 3) ∧ 0 ≤ x9_1 + (-1) * (M 9 2) ∧ 0 ≤ M 9 2 + (-1) * (M 9 3) ∧ 0 ≤ M 6 4 ∧ 0 ≤ M 6 5 + 1 ∧ (z = 1 → 0 ≤ M 6 4 + (-1) * x6_4) ∧ (z = 1 → 0 ≤ (-1) * (M 6 4) + x6_4) ∧ (z = 1 → 0 ≤ M 6 5 + (-1) * x6_5) ∧ (z = 1 → 0 ≤ (-1) * (M 6 5) + x6_5) ∧ ((z = 1 ∧ Rch T x9_1 x6_3 c0 (2, p1 + 1, M 9 3, 0)) ∨ (z = 0 ∧ Rch T x9_1 x6_3 c0 (3, 0, M 6 5, M 6 4))) ∧ (TXP T M) ∧ (TCP T M)) := by
  refine ct_of (d := d + 28) (k := 0) (L := [some (R 6), some (I p1)]) rfl rfl rfl ?_
  have hF0 := Fr.rf fm_m7168_6v1 M0
  generalize hQ : (qI fun z M => Pw M ∧ Fr fm_m7168_6v1 M0 M ∧ 0 ≤ z ∧ z ≤ 1 ∧ 0 ≤ M 9 3 + (-1) * x9_3 ∧ 0 ≤ x9_1 + (-1) * (M 9 3) ∧ 0 ≤ x9_1 + (-1) * (M 9 2) ∧ 0 ≤ M 9 2 + (-1) * (M 9 3) ∧ 0 ≤ M 6 4 ∧ 0 ≤ M 6 5 + 1 ∧ (z = 1 → 0 ≤ M 6 4 + (-1) * x6_4) ∧ (z = 1 → 0 ≤ (-1) * (M 6 4) + x6_4) ∧ (z = 1 → 0 ≤ M 6 5 + (-1) * x6_5) ∧ (z = 1 → 0 ≤ (-1) * (M 6 5) + x6_5) ∧ ((z = 1 ∧ Rch T x9_1 x6_3 c0 (2, p1 + 1, M 9 3, 0)) ∨ (z = 0 ∧ Rch T x9_1 x6_3 c0 (3, 0, M 6 5, M 6 4))) ∧ (TXP T M) ∧ (TCP T M)) = Q
  refine wk_al0 r168_0 (wk_c2 r168_1 (wk_cv2 r168_3 kc_6_174 rfl (m7174_6 _ M0 40 x9_1 x9_3 x9_2 x6_4 x6_5 T hP0 (by decide) (by decide) ex9_1 (by first | with_reducible assumption | omega) (by first | with_reducible assumption | omega) ex9_3 (by first | with_reducible assumption | omega) (by first | with_reducible assumption | omega) ex9_2 (by first | with_reducible assumption | omega) (by first | with_reducible assumption | omega) ex6_4 (by first | with_reducible assumption | omega) (by first | with_reducible assumption | omega) ex6_5 (by first | with_reducible assumption | omega) (by first | with_reducible assumption | omega) (by omega) (by omega) (by omega) pp_TX pp_TC) (cqI ?_)))
  rintro v18 M1 ⟨hP2, hQ3, h19, h20, h5, h6, h7, h8, h9, h10, h11, h12, h13, h14, xh15, pr16, pr17⟩
  have hF4 : Fr fm_m7168_6v1 M0 M1 := hF0.tr hQ3 rfl
  obtain ⟨v21, e22⟩ : ∃ v, M1 9 3 = v := ⟨_, rfl⟩
  have h23 := (bf_9_3 hP2).1; rw [e22] at h23
  have h24 := (bf_9_3 hP2).2; rw [e22] at h24
  obtain ⟨v25, e26⟩ : ∃ v, M1 9 2 = v := ⟨_, rfl⟩
  have h27 := (bf_9_2 hP2).1; rw [e26] at h27
  have h28 := (bf_9_2 hP2).2; rw [e26] at h28
  obtain ⟨v29, e30⟩ : ∃ v, M1 6 4 = v := ⟨_, rfl⟩
  have h31 := (bf_6_4 hP2).1; rw [e30] at h31
  have h32 := (bf_6_4 hP2).2; rw [e30] at h32
  obtain ⟨v33, e34⟩ : ∃ v, M1 6 5 = v := ⟨_, rfl⟩
  have h35 := (bf_6_5 hP2).1; rw [e34] at h35
  have h36 := (bf_6_5 hP2).2; rw [e34] at h36
  refine wk_ifeq r168_6 ⟨by omega, by omega⟩ ?_ ?_
  · intro h37
    refine wk_c1 r168_32 ?_
    subst hQ; exact wk_zret r168_33 (by decide) (⟨rfl, _, rfl, hP2, hF4, by omega, by omega, by have := e22; omega, by have := e22; omega, by have := e26; omega, by have := e26; have := e22; omega, by have := e30; omega, by have := e34; omega, by omega, by omega, by omega, by omega, Or.inr ⟨by omega, by rw [e34, e30]; exact PX_0 xp0 (by omega) (by omega) (by omega)⟩, pr16, pr17⟩)
  · intro h38
    refine wk_al0 r168_9 (wk_il1 r168_10 (wk_c1 r168_11 (wk_iadd r168_12 (wk_cv2 r168_13 kc_6_158 rfl (m7158_6v2 _ M1 (p1 + 1) x9_1 v21 v25 v29 v33 x6_3 T c0 hP2 (by first | with_reducible assumption | omega) (by first | with_reducible assumption | omega) ((hQ3.at g_9_1 rfl).trans ex9_1) (by first | with_reducible assumption | omega) (by first | with_reducible assumption | omega) e22 (by first | with_reducible assumption | omega) (by first | with_reducible assumption | omega) e26 (by first | with_reducible assumption | omega) (by first | with_reducible assumption | omega) e30 (by first | with_reducible assumption | omega) (by first | with_reducible assumption | omega) e34 (by first | with_reducible assumption | omega) (by first | with_reducible assumption | omega) ((hQ3.at g_6_3 rfl).trans ex6_3) (by first | with_reducible assumption | omega) (by first | with_reducible assumption | omega) (by omega) (by omega) (by omega) (PX_1 xp0 (by omega) (by omega)) pr16 pr17) (cqI ?_)))))
    rintro v56 M39 ⟨hP40, hQ41, h57, h58, h43, h44, h45, h46, h47, h48, h49, h50, h51, h52, xh53, pr54, pr55⟩
    have hF42 : Fr fm_m7168_6v1 M0 M39 := hF4.tr hQ41 rfl
    obtain ⟨v59, e60⟩ : ∃ v, M39 9 3 = v := ⟨_, rfl⟩
    have h61 := (bf_9_3 hP40).1; rw [e60] at h61
    have h62 := (bf_9_3 hP40).2; rw [e60] at h62
    obtain ⟨v63, e64⟩ : ∃ v, M39 9 2 = v := ⟨_, rfl⟩
    have h65 := (bf_9_2 hP40).1; rw [e64] at h65
    have h66 := (bf_9_2 hP40).2; rw [e64] at h66
    obtain ⟨v67, e68⟩ : ∃ v, M39 6 4 = v := ⟨_, rfl⟩
    have h69 := (bf_6_4 hP40).1; rw [e68] at h69
    have h70 := (bf_6_4 hP40).2; rw [e68] at h70
    obtain ⟨v71, e72⟩ : ∃ v, M39 6 5 = v := ⟨_, rfl⟩
    have h73 := (bf_6_5 hP40).1; rw [e72] at h73
    have h74 := (bf_6_5 hP40).2; rw [e72] at h74
    refine wk_ifeq r168_16 ⟨by omega, by omega⟩ ?_ ?_
    · intro h75
      refine wk_c1 r168_32 ?_
      subst hQ; exact wk_zret r168_33 (by decide) (⟨rfl, _, rfl, hP40, hF42, by omega, by omega, by have := e60; omega, by have := e60; omega, by have := e64; omega, by have := e64; have := e60; omega, by have := e68; omega, by have := e72; omega, by omega, by omega, by omega, by omega, Or.inr ⟨by omega, by rw [e72, e68]; exact F_k (or_r xh53 (by omega)) (by omega) (by omega)⟩, pr54, pr55⟩)
    · intro h76
      have r2 := or_l xh53 (by omega); rw [e60] at r2
      refine wk_al0 r168_19 (wk_c2 r168_20 (wk_cv2 r168_22 kc_6_174 rfl (m7174_6 _ M39 41 x9_1 v59 v63 v67 v71 T hP40 (by decide) (by decide) ((hQ41.at g_9_1 rfl).trans ((hQ3.at g_9_1 rfl).trans ex9_1)) (by first | with_reducible assumption | omega) (by first | with_reducible assumption | omega) e60 (by first | with_reducible assumption | omega) (by first | with_reducible assumption | omega) e64 (by first | with_reducible assumption | omega) (by first | with_reducible assumption | omega) e68 (by first | with_reducible assumption | omega) (by first | with_reducible assumption | omega) e72 (by first | with_reducible assumption | omega) (by first | with_reducible assumption | omega) (by omega) (by omega) (by omega) pr54 pr55) (cqI ?_)))
      rintro v94 M77 ⟨hP78, hQ79, h95, h96, h81, h82, h83, h84, h85, h86, h87, h88, h89, h90, xh91, pr92, pr93⟩
      have hF80 : Fr fm_m7168_6v1 M0 M77 := hF42.tr hQ79 rfl
      obtain ⟨v97, e98⟩ : ∃ v, M77 9 3 = v := ⟨_, rfl⟩
      have h99 := (bf_9_3 hP78).1; rw [e98] at h99
      have h100 := (bf_9_3 hP78).2; rw [e98] at h100
      obtain ⟨v101, e102⟩ : ∃ v, M77 9 2 = v := ⟨_, rfl⟩
      have h103 := (bf_9_2 hP78).1; rw [e102] at h103
      have h104 := (bf_9_2 hP78).2; rw [e102] at h104
      obtain ⟨v105, e106⟩ : ∃ v, M77 6 4 = v := ⟨_, rfl⟩
      have h107 := (bf_6_4 hP78).1; rw [e106] at h107
      have h108 := (bf_6_4 hP78).2; rw [e106] at h108
      obtain ⟨v109, e110⟩ : ∃ v, M77 6 5 = v := ⟨_, rfl⟩
      have h111 := (bf_6_5 hP78).1; rw [e110] at h111
      have h112 := (bf_6_5 hP78).2; rw [e110] at h112
      refine wk_ifeq r168_25 ⟨by omega, by omega⟩ ?_ ?_
      · intro h113
        refine wk_c1 r168_32 ?_
        subst hQ; exact wk_zret r168_33 (by decide) (⟨rfl, _, rfl, hP78, hF80, by omega, by omega, by have := e98; omega, by have := e98; omega, by have := e102; omega, by have := e102; have := e98; omega, by have := e106; omega, by have := e110; omega, by omega, by omega, by omega, by omega, Or.inr ⟨by omega, by rw [e110, e106]; exact X_n (d := p1 + 1 + 1) r2.1 (by have := r2.2; omega) (by omega) (by omega) (by omega) (by omega)⟩, pr92, pr93⟩)
      · intro h114
        refine wk_c1 r168_28 (wk_goto r168_29 ?_)
        subst hQ; exact wk_zret r168_33 (by decide) (⟨rfl, _, rfl, hP78, hF80, by omega, by omega, by have := e98; omega, by have := e98; omega, by have := e102; omega, by have := e102; have := e98; omega, by have := e106; omega, by have := e110; omega, by have := e106; omega, by have := e106; omega, by have := e110; omega, by have := e110; omega, Or.inl ⟨by omega, by rw [e98]; exact X_c (d := p1 + 1 + 1) r2.1 (by omega) (by omega) (by omega) (by omega)⟩, pr92, pr93⟩)
