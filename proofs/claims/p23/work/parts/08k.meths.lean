/-! ===== written by program (wip/engine2/gen9.py): what makes a row of the tables right ===== -/
def e_wsB : List Nat → List Cond → Bool
  | i :: ps, w :: ws => e_w i w && e_wsB ps ws
  | _, [] => true
  | [], _ :: _ => false
theorem e_wsB_in : ∀ (ps : List Nat) (ws : List Cond), e_wsB ps ws = true → ∀ w ∈ ws, w ∈ GW := by
  intro ps ws
  induction ws generalizing ps with
  | nil => intro _ w hw; cases hw
  | cons v ws ih =>
    intro h w hw
    cases ps with
    | nil => cases h
    | cons i ps =>
      have h2 : (e_w i v && e_wsB ps ws) = true := h
      rw [Bool.and_eq_true] at h2
      rcases List.mem_cons.mp hw with e | e
      · rw [e]; exact e_w_in h2.1
      · exact ih ps h2.2 w e
theorem gX0 : ∀ w ∈ wsX00, w ∈ GW := e_wsB_in [440, 442, 444, 446, 448, 450, 452] _ (by decide +kernel)
theorem gX1 : ∀ w ∈ wsX10, w ∈ GW := e_wsB_in [202, 204, 206, 208] _ (by decide +kernel)
theorem gX2 : ∀ w ∈ wsX20, w ∈ GW := e_wsB_in [412, 414, 416, 418, 420, 422] _ (by decide +kernel)
theorem gX3 : ∀ w ∈ wsX30, w ∈ GW := e_wsB_in [251, 253, 255, 257, 259, 261] _ (by decide +kernel)
theorem gX4 : ∀ w ∈ wsX40, w ∈ GW := e_wsB_in [173, 175, 177, 179, 181, 183, 185] _ (by decide +kernel)
theorem gX5 : ∀ w ∈ wsX50, w ∈ GW := e_wsB_in [314, 316, 318, 320, 322, 324, 326, 328, 330, 332, 334] _ (by decide +kernel)
theorem gX6 : ∀ w ∈ wsX60, w ∈ GW := e_wsB_in [474, 476, 478, 480, 482, 484, 486, 488, 490, 492] _ (by decide +kernel)
theorem gX7 : ∀ w ∈ wsX70, w ∈ GW := e_wsB_in [382, 384, 386, 388, 390] _ (by decide +kernel)
theorem gX8 : ∀ w ∈ wsX80, w ∈ GW := e_wsB_in [355, 357, 359, 361, 363, 365] _ (by decide +kernel)
theorem gX9 : ∀ w ∈ wsX90, w ∈ GW := e_wsB_in [232, 234, 236, 238, 240] _ (by decide +kernel)
theorem gX10 : ∀ w ∈ wsX100, w ∈ GW := e_wsB_in [280, 282, 284, 286] _ (by decide +kernel)
theorem gX11 : ∀ w ∈ wsX110, w ∈ GW := e_wsB_in [666, 668, 670, 672, 674, 676, 678, 680, 682, 684, 686, 688, 690, 692, 694, 696, 698, 700] _ (by decide +kernel)
theorem gX12 : ∀ w ∈ wsX120, w ∈ GW := e_wsB_in [1516, 1518, 1520, 1522, 1524, 1526, 1528, 1530, 1532, 1534, 1536, 1538, 1540, 1542, 1544, 1546, 1548, 1550, 1552, 1554, 1556, 1558, 1560, 1562, 1564, 1566, 1568, 1570, 1572, 1574, 1576, 1578, 1580, 1582, 1584, 1586, 1588, 1590, 1592, 1594, 1596, 1598, 1600, 1602, 1604, 1606, 1608, 1610, 1612, 1614, 1616, 1618, 1620, 1622, 1624, 1626, 1628, 1630, 1632, 1634, 1636, 1638, 1640, 1642, 1644, 1646, 1648, 1650] _ (by decide +kernel)
theorem q_cls {a : Nat} {C : String} {T : u_T} {N : Nat} (h : vwCl[a]? = some (C, T, N)) : ∀ w ∈ u_ws C T N, w ∈ GW := by
  have ha : a < 13 := (List.getElem?_eq_some_iff.mp h).1
  match a, ha, h with
  | 0, _, h => cases h; exact gX0
  | 1, _, h => cases h; exact gX1
  | 2, _, h => cases h; exact gX2
  | 3, _, h => cases h; exact gX3
  | 4, _, h => cases h; exact gX4
  | 5, _, h => cases h; exact gX5
  | 6, _, h => cases h; exact gX6
  | 7, _, h => cases h; exact gX7
  | 8, _, h => cases h; exact gX8
  | 9, _, h => cases h; exact gX9
  | 10, _, h => cases h; exact gX10
  | 11, _, h => cases h; exact gX11
  | 12, _, h => cases h; exact gX12
  | a + 13, ha, _ => omega
theorem q_ty {a : Nat} {C : String} {T : u_T} {N : Nat} (h : vwCl[a]? = some (C, T, N)) : (∀ k, k < N → parseFieldDescriptor (T k).2.2.1 = some (e_ft a k)) ∧ (∀ a, a < N → ∀ b, b < N → a ≠ b → (T a).2.1 ≠ (T b).2.1) ∧ N = e_fn a := by
  have ha : a < 13 := (List.getElem?_eq_some_iff.mp h).1
  match a, ha, h with
  | 0, _, h => cases h; exact ⟨tyX0_ok, nmX0, rfl⟩
  | 1, _, h => cases h; exact ⟨tyX1_ok, nmX1, rfl⟩
  | 2, _, h => cases h; exact ⟨tyX2_ok, nmX2, rfl⟩
  | 3, _, h => cases h; exact ⟨tyX3_ok, nmX3, rfl⟩
  | 4, _, h => cases h; exact ⟨tyX4_ok, nmX4, rfl⟩
  | 5, _, h => cases h; exact ⟨tyX5_ok, nmX5, rfl⟩
  | 6, _, h => cases h; exact ⟨tyX6_ok, nmX6, rfl⟩
  | 7, _, h => cases h; exact ⟨tyX7_ok, nmX7, rfl⟩
  | 8, _, h => cases h; exact ⟨tyX8_ok, nmX8, rfl⟩
  | 9, _, h => cases h; exact ⟨tyX9_ok, nmX9, rfl⟩
  | 10, _, h => cases h; exact ⟨tyX10_ok, nmX10, rfl⟩
  | 11, _, h => cases h; exact ⟨tyX11_ok, nmX11, rfl⟩
  | 12, _, h => cases h; exact ⟨tyX12_ok, nmX12, rfl⟩
  | a + 13, ha, _ => omega
theorem oX0 : ∀ k, k < 7 → e_ok0 (e_ft 0 k) = true := by decide +kernel
theorem oX1 : ∀ k, k < 4 → e_ok0 (e_ft 1 k) = true := by decide +kernel
theorem oX2 : ∀ k, k < 6 → e_ok0 (e_ft 2 k) = true := by decide +kernel
theorem oX3 : ∀ k, k < 6 → e_ok0 (e_ft 3 k) = true := by decide +kernel
theorem oX4 : ∀ k, k < 7 → e_ok0 (e_ft 4 k) = true := by decide +kernel
theorem oX5 : ∀ k, k < 11 → e_ok0 (e_ft 5 k) = true := by decide +kernel
theorem oX6 : ∀ k, k < 10 → e_ok0 (e_ft 6 k) = true := by decide +kernel
theorem oX7 : ∀ k, k < 5 → e_ok0 (e_ft 7 k) = true := by decide +kernel
theorem oX8 : ∀ k, k < 6 → e_ok0 (e_ft 8 k) = true := by decide +kernel
theorem oX9 : ∀ k, k < 5 → e_ok0 (e_ft 9 k) = true := by decide +kernel
theorem oX10 : ∀ k, k < 4 → e_ok0 (e_ft 10 k) = true := by decide +kernel
theorem oX11 : ∀ k, k < 18 → e_ok0 (e_ft 11 k) = true := by decide +kernel
theorem oX12 : ∀ k, k < 68 → e_ok0 (e_ft 12 k) = true := by decide +kernel
theorem q_ok {a : Nat} {C : String} {T : u_T} {N : Nat} (h : vwCl[a]? = some (C, T, N)) : ∀ k, k < N → e_ok0 (e_ft a k) = true := by
  have ha : a < 13 := (List.getElem?_eq_some_iff.mp h).1
  match a, ha, h with
  | 0, _, h => cases h; exact oX0
  | 1, _, h => cases h; exact oX1
  | 2, _, h => cases h; exact oX2
  | 3, _, h => cases h; exact oX3
  | 4, _, h => cases h; exact oX4
  | 5, _, h => cases h; exact oX5
  | 6, _, h => cases h; exact oX6
  | 7, _, h => cases h; exact oX7
  | 8, _, h => cases h; exact oX8
  | 9, _, h => cases h; exact oX9
  | 10, _, h => cases h; exact oX10
  | 11, _, h => cases h; exact oX11
  | 12, _, h => cases h; exact oX12
  | a + 13, ha, _ => omega
theorem jX0 : Cond.instantiable RX0 7 ∈ GW ∧ Cond.initialized RX0 ∈ GW := ⟨e_w_in (i := 426) (by decide +kernel), e_w_in (i := 119) (by decide +kernel)⟩
theorem jX1 : Cond.instantiable RX1 4 ∈ GW ∧ Cond.initialized RX1 ∈ GW := ⟨e_w_in (i := 191) (by decide +kernel), e_w_in (i := 111) (by decide +kernel)⟩
theorem jX2 : Cond.instantiable RX2 6 ∈ GW ∧ Cond.initialized RX2 ∈ GW := ⟨e_w_in (i := 394) (by decide +kernel), e_w_in (i := 118) (by decide +kernel)⟩
theorem jX3 : Cond.instantiable RX3 6 ∈ GW ∧ Cond.initialized RX3 ∈ GW := ⟨e_w_in (i := 212) (by decide +kernel), e_w_in (i := 112) (by decide +kernel)⟩
theorem jX4 : Cond.instantiable RX4 7 ∈ GW ∧ Cond.initialized RX4 ∈ GW := ⟨e_w_in (i := 145) (by decide +kernel), e_w_in (i := 110) (by decide +kernel)⟩
theorem jX5 : Cond.instantiable RX5 11 ∈ GW ∧ Cond.initialized RX5 ∈ GW := ⟨e_w_in (i := 265) (by decide +kernel), e_w_in (i := 114) (by decide +kernel)⟩
theorem jX6 : Cond.instantiable RX6 10 ∈ GW ∧ Cond.initialized RX6 ∈ GW := ⟨e_w_in (i := 456) (by decide +kernel), e_w_in (i := 120) (by decide +kernel)⟩
theorem jX7 : Cond.instantiable RX7 5 ∈ GW ∧ Cond.initialized RX7 ∈ GW := ⟨e_w_in (i := 370) (by decide +kernel), e_w_in (i := 117) (by decide +kernel)⟩
theorem jX8 : Cond.instantiable RX8 6 ∈ GW ∧ Cond.initialized RX8 ∈ GW := ⟨e_w_in (i := 338) (by decide +kernel), e_w_in (i := 116) (by decide +kernel)⟩
theorem jX9 : Cond.instantiable RX9 5 ∈ GW ∧ Cond.initialized RX9 ∈ GW := ⟨e_w_in (i := 220) (by decide +kernel), e_w_in (i := 113) (by decide +kernel)⟩
theorem jX10 : Cond.instantiable RX10 4 ∈ GW ∧ Cond.initialized RX10 ∈ GW := ⟨e_w_in (i := 271) (by decide +kernel), e_w_in (i := 115) (by decide +kernel)⟩
theorem jX11 : Cond.instantiable RX11 18 ∈ GW ∧ Cond.initialized RX11 ∈ GW := ⟨e_w_in (i := 137) (by decide +kernel), e_w_in (i := 109) (by decide +kernel)⟩
theorem jX12 : Cond.instantiable RX12 68 ∈ GW ∧ Cond.initialized RX12 ∈ GW := ⟨e_w_in (i := 1404) (by decide +kernel), e_w_in (i := 124) (by decide +kernel)⟩
theorem q_in {a : Nat} {C : String} {T : u_T} {N : Nat} (h : vwCl[a]? = some (C, T, N)) : Cond.instantiable C N ∈ GW ∧ Cond.initialized C ∈ GW := by
  have ha : a < 13 := (List.getElem?_eq_some_iff.mp h).1
  match a, ha, h with
  | 0, _, h => cases h; exact jX0
  | 1, _, h => cases h; exact jX1
  | 2, _, h => cases h; exact jX2
  | 3, _, h => cases h; exact jX3
  | 4, _, h => cases h; exact jX4
  | 5, _, h => cases h; exact jX5
  | 6, _, h => cases h; exact jX6
  | 7, _, h => cases h; exact jX7
  | 8, _, h => cases h; exact jX8
  | 9, _, h => cases h; exact jX9
  | 10, _, h => cases h; exact jX10
  | 11, _, h => cases h; exact jX11
  | 12, _, h => cases h; exact jX12
  | a + 13, ha, _ => omega
theorem q_arr : Cond.arrayClass .int ∈ GW ∧ Cond.arrayClass .byte ∈ GW ∧ Cond.arrayClass .long ∈ GW := by decide +kernel
theorem q_obj : Cond.instanceMethod objectInit ∈ GW ∧ Cond.code objectInit ⟨#[0xb1]⟩ 1 none ∈ GW := by decide +kernel
theorem q_copy : Cond.native arraycopyName ∈ GW ∧ Cond.static arraycopyName ∈ GW ∧ Cond.initialized "java/lang/System" ∈ GW := by decide +kernel
theorem q_min : Cond.static Lib.Math.min.name ∈ GW ∧ Cond.initialized "java/lang/Math" ∈ GW ∧ Cond.code Lib.Math.min.name Lib.Math.min.code 2 (some .int) ∈ GW := by decide +kernel
theorem q_len : e_dsc 268 0 ∧ ml 268 ≤ 41 ∧ mh 268 = [] ∧ Cond.initialized (nm 268).cls ∈ GW ∧ Cond.code (nm 268) (cb 268) (ml 268) (rt 268) ∈ GW ∧ Cond.instanceMethod (nm 268) ∈ GW ∧ Cond.selects (nm 268).cls (nm 268) (nm 268) ∈ GW ∧ (nm 268).cls = "java/lang/String" := ⟨⟨by decide +kernel, by decide +kernel, by decide +kernel⟩, by decide +kernel⟩
theorem q_cha : e_dsc 269 1 ∧ ml 269 ≤ 41 ∧ mh 269 = [] ∧ Cond.initialized (nm 269).cls ∈ GW ∧ Cond.code (nm 269) (cb 269) (ml 269) (rt 269) ∈ GW ∧ Cond.instanceMethod (nm 269) ∈ GW ∧ Cond.selects (nm 269).cls (nm 269) (nm 269) ∈ GW ∧ (nm 269).cls = "java/lang/String" := ⟨⟨by decide +kernel, by decide +kernel, by decide +kernel⟩, by decide +kernel⟩
theorem q_nse : e_thok "IslandHall" 180 (e_exn 0) 13 prog_32_method_4_code := e_thok_of (by decide +kernel)
theorem q_iae : e_thok "IslandHall" 166 (e_exn 1) 7 prog_19_method_2_code := e_thok_of (by decide +kernel)
theorem q_nse2 : Cond.classLink "IslandHall" 176 (e_exn 0) ∈ GW ∧ Cond.initialized (e_exn 0) ∈ GW := by decide +kernel
theorem q_iae2 : Cond.classLink "IslandHall" 162 (e_exn 1) ∈ GW ∧ Cond.initialized (e_exn 1) ∈ GW := by decide +kernel
theorem q_caught : Cond.classLink "IslandHallLaw" 21 (e_exn 0) ∈ GW ∧ Cond.classLink "IslandHallLaw" 13 (e_exn 1) ∈ GW := by decide +kernel
/-! methods: 0 of a thing, 1 a constructor, 2 static, 3 static with handlers -/
def mks : List Nat := [9, 1, 0, 0, 0, 0, 1, 0, 0, 0, 0, 0, 0, 0, 0, 0, 0, 0, 0, 0, 0, 0, 0, 1, 0, 0, 0, 0, 0, 2, 0, 0, 0, 0, 0, 0, 0, 0, 0, 0, 0, 0, 0, 0, 0, 0, 0, 0, 0, 0, 0, 2, 0, 0, 0, 0, 0, 0, 0, 0, 0, 0, 0, 0, 0, 0, 0, 0, 0, 0, 0, 0, 0, 0, 0, 0, 0, 0, 0, 1, 2, 0, 2, 0, 0, 2, 0, 0, 0, 0, 0, 0, 0, 0, 0, 0, 0, 0, 0, 0, 0, 0, 0, 0, 2, 0, 0, 0, 0, 0, 0, 0, 0, 0, 0, 2, 0, 0, 0, 0, 0, 0, 0, 0, 0, 0, 0, 0, 0, 2, 2, 0, 0, 0, 0, 0, 0, 0, 0, 0, 0, 0, 0, 1, 0, 0, 0, 1, 0, 0, 0, 0, 0, 0, 0, 0, 0, 0, 0, 0, 0, 1, 0, 0, 0, 0, 0, 0, 0, 0, 0, 0, 0, 0, 0, 0, 0, 0, 0, 0, 1, 0, 0, 0, 0, 0, 0, 0, 0, 0, 0, 2, 0, 0, 0, 1, 0, 0, 0, 0, 0, 0, 0, 0, 0, 0, 0, 0, 0, 1, 0, 0, 0, 0, 0, 0, 0, 0, 0, 1, 0, 0, 0, 2, 0, 0, 0, 0, 0, 0, 0, 1, 0, 0, 0, 0, 1, 0, 0, 0, 0, 0, 0, 2, 0, 2, 2, 3, 3, 3, 3, 3, 3, 3, 3, 3, 3, 3, 3, 3, 3, 3, 3, 3, 3, 2, 2, 2, 9, 9]
def mps : List Nat := [1, 3, 2, 3, 2, 1, 0, 0, 1, 1, 1, 3, 0, 1, 2, 1, 1, 0, 5, 1, 0, 2, 2, 0, 1, 1, 0, 1, 2, 1, 1, 1, 0, 1, 2, 3, 1, 1, 2, 1, 1, 1, 2, 1, 0, 2, 3, 0, 6, 0, 1, 1, 1, 1, 1, 1, 4, 2, 0, 3, 2, 1, 0, 1, 0, 0, 1, 3, 0, 0, 5, 1, 0, 1, 0, 1, 0, 3, 2, 0, 2, 1, 1, 1, 0, 1, 0, 1, 1, 1, 1, 1, 1, 0, 2, 1, 0, 0, 1, 2, 2, 2, 1, 3, 1, 1, 1, 3, 0, 2, 2, 0, 0, 0, 2, 1, 0, 3, 2, 0, 0, 1, 1, 2, 2, 0, 1, 0, 4, 6, 1, 0, 1, 2, 2, 1, 5, 1, 2, 1, 1, 0, 2, 0, 0, 0, 2, 1, 5, 1, 2, 1, 1, 1, 2, 0, 0, 1, 1, 1, 0, 2, 0, 1, 0, 0, 1, 2, 1, 2, 3, 2, 2, 0, 1, 1, 0, 2, 1, 0, 0, 0, 0, 0, 0, 2, 2, 2, 2, 4, 1, 2, 3, 1, 1, 1, 2, 2, 2, 3, 1, 2, 2, 2, 2, 1, 3, 2, 1, 2, 1, 2, 2, 2, 0, 1, 1, 0, 1, 0, 2, 2, 1, 2, 3, 1, 1, 0, 1, 0, 0, 1, 2, 0, 1, 1, 1, 0, 1, 1, 0, 0, 0, 1, 0, 1, 1, 5, 3, 4, 3, 3, 3, 3, 3, 3, 4, 4, 3, 3, 4, 3, 3, 4, 3, 2, 2, 2, 0, 1]
def mis : List (Nat × Nat × Nat × Nat) := [(0, 0, 0, 0), (428, 0, 119, 429), (1324, 41, 119, 1325), (1328, 42, 119, 1329), (1303, 1304, 119, 1305), (527, 528, 115, 529), (273, 0, 115, 274), (563, 564, 115, 565), (567, 568, 115, 569), (602, 603, 115, 604), (609, 5, 115, 610), (1178, 1179, 109, 1180), (716, 717, 109, 718), (1240, 1241, 109, 1242), (1248, 1249, 109, 1250), (1117, 1118, 109, 1119), (1258, 1259, 109, 1260), (712, 713, 109, 714), (704, 705, 109, 706), (1286, 1287, 109, 1288), (786, 787, 109, 788), (1350, 43, 109, 1351), (790, 791, 109, 792), (139, 0, 109, 140), (807, 808, 109, 809), (1271, 1272, 109, 1273), (746, 747, 109, 748), (1399, 1400, 109, 1401), (1140, 1141, 109, 1142), (1221, 0, 109, 1222), (1145, 38, 109, 1146), (1162, 39, 109, 1163), (733, 734, 109, 735), (709, 8, 109, 710), (1279, 1280, 109, 1281), (1167, 40, 109, 1168), (1344, 1345, 109, 1346), (1357, 1358, 109, 1359), (1157, 1158, 109, 1159), (1104, 1105, 109, 1106), (812, 14, 109, 813), (1217, 1218, 109, 1219), (1205, 1206, 109, 1207), (1186, 1187, 109, 1188), (1825, 88, 124, 1826), (1865, 93, 124, 1866), (1816, 1817, 124, 1818), (1767, 80, 124, 1768), (1439, 55, 124, 1440), (1820, 1821, 124, 1822), (1667, 58, 124, 1668), (1781, 0, 124, 1782), (1936, 102, 124, 1937), (1944, 104, 124, 1945), (1679, 61, 124, 1680), (1872, 1873, 124, 1874), (1813, 87, 124, 1814), (1419, 50, 124, 1420), (1719, 68, 124, 1720), (1415, 49, 124, 1416), (1876, 1877, 124, 1878), (1828, 1829, 124, 1830), (1747, 75, 124, 1748), (1771, 81, 124, 1772), (1973, 107, 124, 1974), (1711, 66, 124, 1712), (1884, 1885, 124, 1886), (1805, 85, 124, 1806), (1743, 74, 124, 1744), (1788, 1789, 124, 1790), (1654, 1655, 124, 1656), (1911, 1912, 124, 1913), (1947, 1948, 124, 1949), (1853, 91, 124, 1854), (1845, 90, 124, 1846), (1861, 92, 124, 1862), (1675, 60, 124, 1676), (1928, 100, 124, 1929), (1951, 1952, 124, 1953), (1406, 0, 124, 1407), (1892, 0, 124, 1893), (1869, 94, 124, 1870), (1685, 0, 124, 1686), (1837, 89, 124, 1838), (1703, 64, 124, 1704), (1682, 0, 124, 1683), (1731, 71, 124, 1732), (1801, 84, 124, 1802), (1715, 67, 124, 1716), (1916, 97, 124, 1917), (1797, 83, 124, 1798), (1662, 1663, 124, 1664), (1423, 51, 124, 1424), (1735, 72, 124, 1736), (1435, 54, 124, 1436), (1903, 1904, 124, 1905), (1895, 1896, 124, 1897), (1689, 62, 124, 1690), (1659, 57, 124, 1660), (1920, 98, 124, 1921), (1932, 101, 124, 1933), (1924, 99, 124, 1925), (1940, 103, 124, 1941), (1969, 106, 124, 1970), (1692, 0, 124, 1693), (1976, 1977, 124, 1978), (1965, 105, 124, 1966), (1431, 53, 124, 1432), (1411, 48, 124, 1412), (1446, 56, 124, 1447), (1832, 1833, 124, 1834), (1727, 70, 124, 1728), (1759, 78, 124, 1760), (1880, 1881, 124, 1882), (1707, 65, 124, 1708), (1442, 0, 124, 1443), (1751, 76, 124, 1752), (1763, 79, 124, 1764), (1907, 1908, 124, 1909), (1739, 73, 124, 1740), (1723, 69, 124, 1724), (1955, 1956, 124, 1957), (1960, 1961, 124, 1962), (1671, 59, 124, 1672), (1792, 1793, 124, 1794), (1900, 96, 124, 1901), (1784, 1785, 124, 1786), (1778, 82, 124, 1779), (1809, 86, 124, 1810), (1695, 0, 124, 1696), (1774, 0, 124, 1775), (1889, 95, 124, 1890), (1856, 1857, 124, 1858), (1755, 77, 124, 1756), (1848, 1849, 124, 1850), (1840, 1841, 124, 1842), (1427, 52, 124, 1428), (1699, 63, 124, 1700), (511, 512, 111, 513), (1072, 1073, 111, 1074), (1080, 1081, 111, 1082), (507, 508, 111, 509), (1387, 1388, 111, 1389), (193, 0, 111, 194), (503, 504, 111, 505), (1307, 1308, 118, 1309), (1290, 1291, 118, 1292), (396, 0, 118, 397), (1332, 1333, 118, 1334), (1317, 1318, 118, 1319), (1312, 1313, 118, 1314), (1372, 1373, 118, 1374), (1057, 33, 112, 1058), (1053, 32, 112, 1054), (886, 16, 112, 887), (1031, 28, 112, 1032), (986, 22, 112, 987), (1041, 29, 112, 1042), (1027, 27, 112, 1028), (966, 19, 112, 967), (904, 17, 112, 905), (214, 0, 112, 215), (1022, 26, 112, 1023), (1085, 37, 112, 1086), (991, 23, 112, 992), (995, 24, 112, 996), (1045, 30, 112, 1046), (970, 20, 112, 971), (1049, 31, 112, 1050), (881, 882, 112, 883), (1108, 1109, 112, 1110), (1062, 34, 112, 1063), (1066, 35, 112, 1067), (1007, 25, 112, 1008), (978, 21, 112, 979), (909, 18, 112, 910), (1077, 36, 112, 1078), (531, 532, 110, 533), (1094, 1095, 110, 1096), (537, 538, 110, 539), (147, 0, 110, 148), (545, 546, 110, 547), (550, 551, 110, 552), (496, 497, 110, 498), (541, 542, 110, 543), (625, 6, 114, 626), (598, 599, 114, 600), (520, 0, 114, 521), (585, 586, 114, 587), (633, 634, 114, 635), (637, 638, 114, 639), (762, 0, 114, 763), (595, 4, 114, 596), (645, 646, 114, 647), (1192, 1193, 114, 1194), (267, 0, 114, 268), (616, 617, 114, 618), (581, 582, 114, 583), (629, 7, 114, 630), (1150, 1151, 114, 1152), (729, 730, 114, 731), (798, 799, 114, 800), (574, 1, 114, 575), (578, 2, 114, 579), (591, 3, 114, 592), (515, 516, 114, 517), (1295, 1296, 114, 1297), (620, 621, 114, 622), (641, 642, 114, 643), (458, 0, 120, 459), (1384, 46, 120, 1385), (1392, 47, 120, 1393), (1361, 1362, 120, 1363), (1378, 45, 120, 1379), (1367, 44, 120, 1368), (755, 10, 117, 756), (750, 751, 117, 752), (720, 721, 117, 722), (775, 12, 117, 776), (372, 0, 117, 373), (779, 13, 117, 780), (1262, 1263, 117, 1264), (771, 11, 117, 772), (783, 0, 117, 784), (1170, 1171, 116, 1172), (742, 9, 116, 743), (612, 613, 116, 614), (724, 725, 116, 726), (765, 766, 116, 767), (794, 795, 116, 796), (737, 738, 116, 739), (340, 0, 116, 341), (1232, 1233, 116, 1234), (758, 759, 116, 760), (1225, 1226, 116, 1227), (889, 890, 113, 891), (222, 0, 113, 223), (998, 999, 113, 1000), (981, 982, 113, 983), (912, 913, 113, 914), (1010, 1011, 113, 1012), (894, 895, 113, 896), (1002, 1003, 113, 1004), (898, 0, 113, 899), (973, 974, 113, 975), (1196, 0, 135, 1197), (554, 0, 122, 555), (1175, 0, 108, 1176), (1237, 0, 108, 1238), (1245, 0, 108, 1246), (1113, 0, 108, 1114), (1255, 0, 108, 1256), (1283, 0, 108, 1284), (803, 0, 108, 804), (1268, 0, 108, 1269), (1396, 0, 108, 1397), (1137, 0, 108, 1138), (1276, 0, 108, 1277), (1341, 0, 108, 1342), (1354, 0, 108, 1355), (1154, 0, 108, 1155), (1101, 0, 108, 1102), (1214, 0, 108, 1215), (1202, 0, 108, 1203), (1183, 0, 108, 1184), (500, 0, 121, 501), (523, 0, 121, 524), (1229, 0, 121, 1230), (0, 0, 0, 0), (0, 0, 0, 0)]
def mk (y : Nat) : Nat := mks.getD y 9
def mp (y : Nat) : Nat := mps.getD y 0
def mi (y : Nat) : Nat × Nat × Nat × Nat := mis.getD y (0, 0, 0, 0)
noncomputable def kM (a : Nat) : Bool := Nat.beq (mk a) 9 ||
  (!(Nat.beq a 0) && decide ((nm a).cls ≠ "java/lang/invoke/MethodHandle") && decide ((nm a).cls ≠ "java/lang/invoke/VarHandle") && decide ((parseMethodDescriptor (nm a).desc).map (fun d => d.parameters.length) = some (mp a)) && Nat.ble (ml a) 41 && e_w (mi a).2.2.1 (.initialized (nm a).cls) &&
    ((Nat.beq (mk a) 3 && !(decide (mh a = [])) && e_w (mi a).1 (.static (nm a)) && e_w (mi a).2.2.2 (.codeWith (nm a) (cb a) (ml a) (rt a) (mh a))) ||
     (decide (mh a = []) && e_w (mi a).2.2.2 (.code (nm a) (cb a) (ml a) (rt a)) && ((Nat.beq (mk a) 2 && e_w (mi a).1 (.static (nm a))) || (Nat.beq (mk a) 1 && e_w (mi a).1 (.instanceMethod (nm a)) && decide ((nm a).name = "<init>") && decide (rt a = none)) ||
      (Nat.beq (mk a) 0 && e_w (mi a).1 (.instanceMethod (nm a)) && e_w (mi a).2.1 (.selects (nm a).cls (nm a) (nm a)) && Nat.ble (e_mc a) 99 && (match vwCl[e_mc a]? with
        | some q => decide (q.1 = (nm a).cls)
        | none => false))))))
theorem kM_0 : (List.range 6).all (fun a => kM (0 + a)) = true := by decide +kernel
theorem kM_1 : (List.range 6).all (fun a => kM (6 + a)) = true := by decide +kernel
theorem kM_2 : (List.range 6).all (fun a => kM (12 + a)) = true := by decide +kernel
theorem kM_3 : (List.range 6).all (fun a => kM (18 + a)) = true := by decide +kernel
theorem kM_4 : (List.range 6).all (fun a => kM (24 + a)) = true := by decide +kernel
theorem kM_5 : (List.range 6).all (fun a => kM (30 + a)) = true := by decide +kernel
theorem kM_6 : (List.range 6).all (fun a => kM (36 + a)) = true := by decide +kernel
theorem kM_7 : (List.range 6).all (fun a => kM (42 + a)) = true := by decide +kernel
theorem kM_8 : (List.range 6).all (fun a => kM (48 + a)) = true := by decide +kernel
theorem kM_9 : (List.range 6).all (fun a => kM (54 + a)) = true := by decide +kernel
theorem kM_10 : (List.range 6).all (fun a => kM (60 + a)) = true := by decide +kernel
theorem kM_11 : (List.range 6).all (fun a => kM (66 + a)) = true := by decide +kernel
theorem kM_12 : (List.range 6).all (fun a => kM (72 + a)) = true := by decide +kernel
theorem kM_13 : (List.range 6).all (fun a => kM (78 + a)) = true := by decide +kernel
theorem kM_14 : (List.range 6).all (fun a => kM (84 + a)) = true := by decide +kernel
theorem kM_15 : (List.range 6).all (fun a => kM (90 + a)) = true := by decide +kernel
theorem kM_16 : (List.range 6).all (fun a => kM (96 + a)) = true := by decide +kernel
theorem kM_17 : (List.range 6).all (fun a => kM (102 + a)) = true := by decide +kernel
theorem kM_18 : (List.range 6).all (fun a => kM (108 + a)) = true := by decide +kernel
theorem kM_19 : (List.range 6).all (fun a => kM (114 + a)) = true := by decide +kernel
theorem kM_20 : (List.range 6).all (fun a => kM (120 + a)) = true := by decide +kernel
theorem kM_21 : (List.range 6).all (fun a => kM (126 + a)) = true := by decide +kernel
theorem kM_22 : (List.range 6).all (fun a => kM (132 + a)) = true := by decide +kernel
theorem kM_23 : (List.range 6).all (fun a => kM (138 + a)) = true := by decide +kernel
theorem kM_24 : (List.range 6).all (fun a => kM (144 + a)) = true := by decide +kernel
theorem kM_25 : (List.range 6).all (fun a => kM (150 + a)) = true := by decide +kernel
theorem kM_26 : (List.range 6).all (fun a => kM (156 + a)) = true := by decide +kernel
theorem kM_27 : (List.range 6).all (fun a => kM (162 + a)) = true := by decide +kernel
theorem kM_28 : (List.range 6).all (fun a => kM (168 + a)) = true := by decide +kernel
theorem kM_29 : (List.range 6).all (fun a => kM (174 + a)) = true := by decide +kernel
theorem kM_30 : (List.range 6).all (fun a => kM (180 + a)) = true := by decide +kernel
theorem kM_31 : (List.range 6).all (fun a => kM (186 + a)) = true := by decide +kernel
theorem kM_32 : (List.range 6).all (fun a => kM (192 + a)) = true := by decide +kernel
theorem kM_33 : (List.range 6).all (fun a => kM (198 + a)) = true := by decide +kernel
theorem kM_34 : (List.range 6).all (fun a => kM (204 + a)) = true := by decide +kernel
theorem kM_35 : (List.range 6).all (fun a => kM (210 + a)) = true := by decide +kernel
theorem kM_36 : (List.range 6).all (fun a => kM (216 + a)) = true := by decide +kernel
theorem kM_37 : (List.range 6).all (fun a => kM (222 + a)) = true := by decide +kernel
theorem kM_38 : (List.range 6).all (fun a => kM (228 + a)) = true := by decide +kernel
theorem kM_39 : (List.range 6).all (fun a => kM (234 + a)) = true := by decide +kernel
theorem kM_40 : (List.range 6).all (fun a => kM (240 + a)) = true := by decide +kernel
theorem kM_41 : (List.range 6).all (fun a => kM (246 + a)) = true := by decide +kernel
theorem kM_42 : (List.range 6).all (fun a => kM (252 + a)) = true := by decide +kernel
theorem kM_43 : (List.range 6).all (fun a => kM (258 + a)) = true := by decide +kernel
theorem kM_44 : (List.range 4).all (fun a => kM (264 + a)) = true := by decide +kernel
theorem kM_all : ∀ a, a < 268 → kM a = true := by
  intro a ha
  by_cases h0 : a < 6
  · have := List.all_eq_true.mp kM_0 (a - 0) (List.mem_range.mpr (by omega))
    rw [show 0 + (a - 0) = a by omega] at this
    exact this
  by_cases h1 : a < 12
  · have := List.all_eq_true.mp kM_1 (a - 6) (List.mem_range.mpr (by omega))
    rw [show 6 + (a - 6) = a by omega] at this
    exact this
  by_cases h2 : a < 18
  · have := List.all_eq_true.mp kM_2 (a - 12) (List.mem_range.mpr (by omega))
    rw [show 12 + (a - 12) = a by omega] at this
    exact this
  by_cases h3 : a < 24
  · have := List.all_eq_true.mp kM_3 (a - 18) (List.mem_range.mpr (by omega))
    rw [show 18 + (a - 18) = a by omega] at this
    exact this
  by_cases h4 : a < 30
  · have := List.all_eq_true.mp kM_4 (a - 24) (List.mem_range.mpr (by omega))
    rw [show 24 + (a - 24) = a by omega] at this
    exact this
  by_cases h5 : a < 36
  · have := List.all_eq_true.mp kM_5 (a - 30) (List.mem_range.mpr (by omega))
    rw [show 30 + (a - 30) = a by omega] at this
    exact this
  by_cases h6 : a < 42
  · have := List.all_eq_true.mp kM_6 (a - 36) (List.mem_range.mpr (by omega))
    rw [show 36 + (a - 36) = a by omega] at this
    exact this
  by_cases h7 : a < 48
  · have := List.all_eq_true.mp kM_7 (a - 42) (List.mem_range.mpr (by omega))
    rw [show 42 + (a - 42) = a by omega] at this
    exact this
  by_cases h8 : a < 54
  · have := List.all_eq_true.mp kM_8 (a - 48) (List.mem_range.mpr (by omega))
    rw [show 48 + (a - 48) = a by omega] at this
    exact this
  by_cases h9 : a < 60
  · have := List.all_eq_true.mp kM_9 (a - 54) (List.mem_range.mpr (by omega))
    rw [show 54 + (a - 54) = a by omega] at this
    exact this
  by_cases h10 : a < 66
  · have := List.all_eq_true.mp kM_10 (a - 60) (List.mem_range.mpr (by omega))
    rw [show 60 + (a - 60) = a by omega] at this
    exact this
  by_cases h11 : a < 72
  · have := List.all_eq_true.mp kM_11 (a - 66) (List.mem_range.mpr (by omega))
    rw [show 66 + (a - 66) = a by omega] at this
    exact this
  by_cases h12 : a < 78
  · have := List.all_eq_true.mp kM_12 (a - 72) (List.mem_range.mpr (by omega))
    rw [show 72 + (a - 72) = a by omega] at this
    exact this
  by_cases h13 : a < 84
  · have := List.all_eq_true.mp kM_13 (a - 78) (List.mem_range.mpr (by omega))
    rw [show 78 + (a - 78) = a by omega] at this
    exact this
  by_cases h14 : a < 90
  · have := List.all_eq_true.mp kM_14 (a - 84) (List.mem_range.mpr (by omega))
    rw [show 84 + (a - 84) = a by omega] at this
    exact this
  by_cases h15 : a < 96
  · have := List.all_eq_true.mp kM_15 (a - 90) (List.mem_range.mpr (by omega))
    rw [show 90 + (a - 90) = a by omega] at this
    exact this
  by_cases h16 : a < 102
  · have := List.all_eq_true.mp kM_16 (a - 96) (List.mem_range.mpr (by omega))
    rw [show 96 + (a - 96) = a by omega] at this
    exact this
  by_cases h17 : a < 108
  · have := List.all_eq_true.mp kM_17 (a - 102) (List.mem_range.mpr (by omega))
    rw [show 102 + (a - 102) = a by omega] at this
    exact this
  by_cases h18 : a < 114
  · have := List.all_eq_true.mp kM_18 (a - 108) (List.mem_range.mpr (by omega))
    rw [show 108 + (a - 108) = a by omega] at this
    exact this
  by_cases h19 : a < 120
  · have := List.all_eq_true.mp kM_19 (a - 114) (List.mem_range.mpr (by omega))
    rw [show 114 + (a - 114) = a by omega] at this
    exact this
  by_cases h20 : a < 126
  · have := List.all_eq_true.mp kM_20 (a - 120) (List.mem_range.mpr (by omega))
    rw [show 120 + (a - 120) = a by omega] at this
    exact this
  by_cases h21 : a < 132
  · have := List.all_eq_true.mp kM_21 (a - 126) (List.mem_range.mpr (by omega))
    rw [show 126 + (a - 126) = a by omega] at this
    exact this
  by_cases h22 : a < 138
  · have := List.all_eq_true.mp kM_22 (a - 132) (List.mem_range.mpr (by omega))
    rw [show 132 + (a - 132) = a by omega] at this
    exact this
  by_cases h23 : a < 144
  · have := List.all_eq_true.mp kM_23 (a - 138) (List.mem_range.mpr (by omega))
    rw [show 138 + (a - 138) = a by omega] at this
    exact this
  by_cases h24 : a < 150
  · have := List.all_eq_true.mp kM_24 (a - 144) (List.mem_range.mpr (by omega))
    rw [show 144 + (a - 144) = a by omega] at this
    exact this
  by_cases h25 : a < 156
  · have := List.all_eq_true.mp kM_25 (a - 150) (List.mem_range.mpr (by omega))
    rw [show 150 + (a - 150) = a by omega] at this
    exact this
  by_cases h26 : a < 162
  · have := List.all_eq_true.mp kM_26 (a - 156) (List.mem_range.mpr (by omega))
    rw [show 156 + (a - 156) = a by omega] at this
    exact this
  by_cases h27 : a < 168
  · have := List.all_eq_true.mp kM_27 (a - 162) (List.mem_range.mpr (by omega))
    rw [show 162 + (a - 162) = a by omega] at this
    exact this
  by_cases h28 : a < 174
  · have := List.all_eq_true.mp kM_28 (a - 168) (List.mem_range.mpr (by omega))
    rw [show 168 + (a - 168) = a by omega] at this
    exact this
  by_cases h29 : a < 180
  · have := List.all_eq_true.mp kM_29 (a - 174) (List.mem_range.mpr (by omega))
    rw [show 174 + (a - 174) = a by omega] at this
    exact this
  by_cases h30 : a < 186
  · have := List.all_eq_true.mp kM_30 (a - 180) (List.mem_range.mpr (by omega))
    rw [show 180 + (a - 180) = a by omega] at this
    exact this
  by_cases h31 : a < 192
  · have := List.all_eq_true.mp kM_31 (a - 186) (List.mem_range.mpr (by omega))
    rw [show 186 + (a - 186) = a by omega] at this
    exact this
  by_cases h32 : a < 198
  · have := List.all_eq_true.mp kM_32 (a - 192) (List.mem_range.mpr (by omega))
    rw [show 192 + (a - 192) = a by omega] at this
    exact this
  by_cases h33 : a < 204
  · have := List.all_eq_true.mp kM_33 (a - 198) (List.mem_range.mpr (by omega))
    rw [show 198 + (a - 198) = a by omega] at this
    exact this
  by_cases h34 : a < 210
  · have := List.all_eq_true.mp kM_34 (a - 204) (List.mem_range.mpr (by omega))
    rw [show 204 + (a - 204) = a by omega] at this
    exact this
  by_cases h35 : a < 216
  · have := List.all_eq_true.mp kM_35 (a - 210) (List.mem_range.mpr (by omega))
    rw [show 210 + (a - 210) = a by omega] at this
    exact this
  by_cases h36 : a < 222
  · have := List.all_eq_true.mp kM_36 (a - 216) (List.mem_range.mpr (by omega))
    rw [show 216 + (a - 216) = a by omega] at this
    exact this
  by_cases h37 : a < 228
  · have := List.all_eq_true.mp kM_37 (a - 222) (List.mem_range.mpr (by omega))
    rw [show 222 + (a - 222) = a by omega] at this
    exact this
  by_cases h38 : a < 234
  · have := List.all_eq_true.mp kM_38 (a - 228) (List.mem_range.mpr (by omega))
    rw [show 228 + (a - 228) = a by omega] at this
    exact this
  by_cases h39 : a < 240
  · have := List.all_eq_true.mp kM_39 (a - 234) (List.mem_range.mpr (by omega))
    rw [show 234 + (a - 234) = a by omega] at this
    exact this
  by_cases h40 : a < 246
  · have := List.all_eq_true.mp kM_40 (a - 240) (List.mem_range.mpr (by omega))
    rw [show 240 + (a - 240) = a by omega] at this
    exact this
  by_cases h41 : a < 252
  · have := List.all_eq_true.mp kM_41 (a - 246) (List.mem_range.mpr (by omega))
    rw [show 246 + (a - 246) = a by omega] at this
    exact this
  by_cases h42 : a < 258
  · have := List.all_eq_true.mp kM_42 (a - 252) (List.mem_range.mpr (by omega))
    rw [show 252 + (a - 252) = a by omega] at this
    exact this
  by_cases h43 : a < 264
  · have := List.all_eq_true.mp kM_43 (a - 258) (List.mem_range.mpr (by omega))
    rw [show 258 + (a - 258) = a by omega] at this
    exact this
  by_cases h44 : a < 268
  · have := List.all_eq_true.mp kM_44 (a - 264) (List.mem_range.mpr (by omega))
    rw [show 264 + (a - 264) = a by omega] at this
    exact this
  omega
theorem kM_big : ∀ a, 268 ≤ a → a ≠ 270 → mk a = 9 := by
  intro a ha h2
  unfold mk
  by_cases h0 : a = 268
  · subst h0; rfl
  by_cases h1 : a = 269
  · subst h1; rfl
  rw [List.getD_eq_getElem?_getD, List.getElem?_eq_none (show mks.length ≤ a from (by rw [show mks.length = 270 by decide +kernel]; omega))]
  rfl
theorem kM_ok {a : Nat} (h : mk a ≠ 9) : kM a = true := by
  by_cases h8 : a < 268
  · exact kM_all a h8
  · by_cases h7 : a = 270
    · rw [h7] at h; exact absurd rfl h
    · exact absurd (kM_big a (by omega) h7) h
theorem nb {a b : Nat} (h : Nat.beq a b = true) : a = b := Nat.eq_of_beq_eq_true h
theorem nl {a b : Nat} (h : Nat.ble a b = true) : a ≤ b := Nat.le_of_ble_eq_true h
theorem m_all {a : Nat} (h : mk a ≠ 9) : a ≠ 0 ∧ e_dsc a (mp a) ∧ ml a ≤ 41 ∧ Cond.initialized (nm a).cls ∈ GW ∧
    ((mk a = 3 ∧ ¬ mh a = [] ∧ Cond.static (nm a) ∈ GW ∧ Cond.codeWith (nm a) (cb a) (ml a) (rt a) (mh a) ∈ GW) ∨
     (mh a = [] ∧ Cond.code (nm a) (cb a) (ml a) (rt a) ∈ GW ∧ ((mk a = 2 ∧ Cond.static (nm a) ∈ GW) ∨ (mk a = 1 ∧ Cond.instanceMethod (nm a) ∈ GW ∧ (nm a).name = "<init>" ∧ rt a = none) ∨ (mk a = 0 ∧ Cond.instanceMethod (nm a) ∈ GW ∧ Cond.selects (nm a).cls (nm a) (nm a) ∈ GW ∧ e_mc a < 100 ∧ ∃ T n, vwCl[e_mc a]? = some ((nm a).cls, T, n))))) := by
  have hk := kM_ok h
  unfold kM at hk
  simp only [Bool.or_eq_true, Bool.and_eq_true, Bool.not_eq_true', decide_eq_true_eq, decide_eq_false_iff_not] at hk
  rcases hk with hk | ⟨⟨⟨⟨⟨⟨h0, h1⟩, h2⟩, h3⟩, h4⟩, h5⟩, h6⟩
  · exact absurd (nb hk) h
  · refine ⟨(fun q => by rw [q] at h0; cases h0), ⟨h1, h2, h3⟩, nl h4, e_w_in h5, ?_⟩
    rcases h6 with ⟨⟨⟨a1, a2⟩, a3⟩, a4⟩ | ⟨⟨a1, a2⟩, a3⟩
    · exact Or.inl ⟨nb a1, a2, e_w_in a3, e_w_in a4⟩
    · refine Or.inr ⟨a1, e_w_in a2, ?_⟩
      rcases a3 with (⟨b1, b2⟩ | ⟨⟨⟨b1, b2⟩, b3⟩, b4⟩) | ⟨⟨⟨⟨b1, b2⟩, b3⟩, b4⟩, b5⟩
      · exact Or.inl ⟨nb b1, e_w_in b2⟩
      · exact Or.inr (Or.inl ⟨nb b1, e_w_in b2, b3, b4⟩)
      · refine Or.inr (Or.inr ⟨nb b1, e_w_in b2, e_w_in b3, Nat.lt_succ_of_le (nl b4), ?_⟩)
        split at b5
        · rename_i q hq
          have e := of_decide_eq_true b5
          exact ⟨q.2.1, q.2.2, by rw [hq, ← e]⟩
        · cases b5
