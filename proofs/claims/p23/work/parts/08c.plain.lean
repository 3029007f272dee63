/-! ===== written by program (wip/engine2/gen4.py): shifts, conversions, compares, stack, branches; s_l, s_u and the wb_ rows are the kit's (laws/BITS) ===== -/
theorem s_l : ∀ n, n < 32 → ((nI n &&& 31).toBitVec.smod 32).toNat = n := by decide +kernel
theorem s_u : ∀ n, n < 32 → (((nI n).toUInt32 &&& Int32.toUInt32 31).toBitVec % 32).toNat = n := by decide +kernel
theorem wb_tb (n : Nat) : (lN n).toBitVec = BitVec.ofNat 64 n := rfl
theorem wb_inj {a b : Int64} (h : a.toBitVec = b.toBitVec) : a = b := Int64.toBitVec_inj.mp h
theorem wb_tn {n : Nat} (h : n < 2 ^ 64) : (lN n).toBitVec.toNat = n := by rw [wb_tb, BitVec.toNat_ofNat, Nat.mod_eq_of_lt h]
theorem wb_c : ∀ k, k < 64 → ((nI k).toInt64 &&& 63) = lN k := by decide +kernel
theorem wb_cu : ∀ k, k < 64 → ((nI k).toInt64.toUInt64 &&& Int64.toUInt64 63) = UInt64.ofNat k := by decide +kernel
theorem wb_sm : ∀ k, k < 64 → (BitVec.ofNat 64 k).smod 64 = BitVec.ofNat 64 k := by decide +kernel
theorem wb_shr {n k : Nat} (hn : n < 2 ^ 64) (hk : k < 64) : ((lN n).toUInt64 >>> ((nI k).toInt64.toUInt64 &&& Int64.toUInt64 63)).toInt64 = lN (n / 2 ^ k) := by
  rw [wb_cu k hk]
  apply wb_inj
  apply BitVec.eq_of_toNat_eq
  show ((lN n).toUInt64 >>> UInt64.ofNat k).toNat = (BitVec.ofNat 64 _).toNat
  have h1 : (UInt64.ofNat k).toNat = k := by
    show (BitVec.ofNat 64 k).toNat = k
    rw [BitVec.toNat_ofNat, Nat.mod_eq_of_lt (by omega)]
  have h2 : (lN n).toUInt64.toNat = n := wb_tn hn
  rw [UInt64.toNat_shiftRight, h1, h2, Nat.mod_eq_of_lt hk, Nat.shiftRight_eq_div_pow, BitVec.toNat_ofNat, Nat.mod_eq_of_lt (Nat.lt_of_le_of_lt (Nat.div_le_self _ _) hn)]
theorem wb_shl (n : Nat) {k : Nat} (hk : k < 64) : lN n <<< ((nI k).toInt64 &&& 63) = lN (n * 2 ^ k) := by
  rw [wb_c k hk]
  apply wb_inj
  rw [Int64.toBitVec_shiftLeft, wb_tb, wb_tb, wb_tb, wb_sm k hk]
  apply BitVec.eq_of_toNat_eq
  rw [BitVec.shiftLeft_eq', BitVec.toNat_shiftLeft, BitVec.toNat_ofNat, BitVec.toNat_ofNat, BitVec.toNat_ofNat, Nat.mod_eq_of_lt (show k < 2 ^ 64 by omega), Nat.shiftLeft_eq, Nat.mul_mod, Nat.mod_mod, ← Nat.mul_mod]
theorem nI_nz {z : Nat} (h1 : 1 ≤ z) (h2 : z ≤ 2147483647) : ¬ nI z = 0 := by
  intro h
  have h3 := (e_K_eq (nI z) (nI 0)).mp h
  rw [e_K_nI (by omega), e_K_nI (by omega)] at h3
  omega
theorem n32_shl (x : Nat) {z : Nat} (hz : z < 32) : nI x <<< (nI z &&& 31) = nI (x * 2 ^ z) := by
  apply Int32.toBitVec_inj.mp
  apply BitVec.eq_of_toNat_eq
  rw [pk_shl (nI x) (nI z &&& 31) z (s_l z hz), n32_bv, n32_bv, BitVec.toNat_ofNat, BitVec.toNat_ofNat, Nat.mod_mul_mod]
theorem n31 (z : Nat) : nI z &&& 31 = nI (z % 32) &&& 31 := by
  apply Int32.toBitVec_inj.mp
  apply BitVec.eq_of_toNat_eq
  have h : (31 : Int32).toBitVec.toNat = 2 ^ 5 - 1 := by decide
  rw [Int32.toBitVec_and, Int32.toBitVec_and, BitVec.toNat_and, BitVec.toNat_and, h, Nat.and_two_pow_sub_one_eq_mod, Nat.and_two_pow_sub_one_eq_mod, n32_bv, n32_bv, BitVec.toNat_ofNat, BitVec.toNat_ofNat]
  omega
theorem n32_ushr {x z : Nat} (hx : x < 4294967296) (hz : z < 32) : ((nI x).toUInt32 >>> ((nI z).toUInt32 &&& Int32.toUInt32 31)).toInt32 = nI (x / 2 ^ z) := pk_ushrN hx (nI z) z (s_u z hz)
theorem n32_i2l {x : Nat} (h : 2147483648 ≤ x) (hx : x < 4294967296) : (nI x).toInt64 = lN (x + 18446744069414584320) := by
  rw [← Int64.toInt_inj, Int32.toInt_toInt64]
  unfold nI lN
  rw [Int32.toInt_ofNat', Int64.toInt_ofNat']
  simp only [Int.bmod_def, Int32.size, Int64.size]
  omega
def e_K64 (x : Int64) : Nat := (x.toInt + 9223372036854775808).toNat
theorem e_K64_lt (x y : Int64) : x < y ↔ e_K64 x < e_K64 y := by
  rw [Int64.lt_iff_toInt_lt]
  have h1 := Int64.le_toInt x
  have h2 := Int64.le_toInt y
  unfold e_K64
  omega
theorem e_K64_lN {n : Nat} (h : n < 18446744073709551616) : e_K64 (lN n) = (n + 9223372036854775808) % 18446744073709551616 := by
  unfold e_K64 lN
  rw [Int64.toInt_ofNat']
  simp only [Int.bmod_def, Int64.size]
  omega
theorem s_ishl {y pc a b c9 : Nat} (hd : decode (cb y) pc = .ok (.ishl, 1)) : e_P y pc (f_ishl a b c9) := by
  intro G B M d out E g r N hpc hf
  obtain ⟨p, l, e, R, s, m, args, below, meth, c, Q, c0, s0⟩ := M
  obtain ⟨hx, hb, hml, hown, hts, hX, hG, hlk, hin, hsh, hroom, hfr, htr, htab, hscr⟩ := N
  obtain ⟨pc', lo, st, h⟩ := g
  obtain rfl : pc' = pc := hpc
  obtain ⟨x, z, st2, rfl, hg, rfl⟩ := i_ii hf
  simp only [Bool.and_eq_true] at hg
  refine ⟨_, rfl, fun hcF hsF k => ?_⟩
  intro H ls locs cells slots hH hl hc hs
  refine lv_ishl hx hb hd ?_
  rw [show giv G x <<< (giv G z &&& 31) = giv G (x * 2 ^ (z % 32) % 4294967296) by rw [hG.2.1 x (l32_lt hg.1.1), hG.2.1 z (l32_lt hg.1.2), hG.2.1 _ (Nat.mod_lt _ (by decide)), n32m, n31 z, n32_shl x (Nat.mod_lt z (by decide))]]
  exact k H ls locs cells slots hH hl hc hs
theorem s_iushr {y pc a b c9 : Nat} (hd : decode (cb y) pc = .ok (.iushr, 1)) : e_P y pc (f_iushr a b c9) := by
  intro G B M d out E g r N hpc hf
  obtain ⟨p, l, e, R, s, m, args, below, meth, c, Q, c0, s0⟩ := M
  obtain ⟨hx, hb, hml, hown, hts, hX, hG, hlk, hin, hsh, hroom, hfr, htr, htab, hscr⟩ := N
  obtain ⟨pc', lo, st, h⟩ := g
  obtain rfl : pc' = pc := hpc
  obtain ⟨x, z, st2, rfl, hg, rfl⟩ := i_ii hf
  simp only [Bool.and_eq_true] at hg
  refine ⟨_, rfl, fun hcF hsF k => ?_⟩
  intro H ls locs cells slots hH hl hc hs
  refine lv_iushr hx hb hd (v := giv G (x / 2 ^ z % 4294967296)) (by rw [hG.2.1 x (l32_lt hg.1.1), hG.2.1 z (l32_lt hg.1.2), hG.2.1 _ (Nat.mod_lt _ (by decide)), n32m, n32_ushr (l32_lt hg.1.1) (Nat.lt_succ_of_le (Nat.le_of_ble_eq_true hg.2))]) ?_
  exact k H ls locs cells slots hH hl hc hs
theorem s_lshl {y pc a b c9 : Nat} (hd : decode (cb y) pc = .ok (.lshl, 1)) : e_P y pc (f_lshl a b c9) := by
  intro G B M d out E g r N hpc hf
  obtain ⟨p, l, e, R, s, m, args, below, meth, c, Q, c0, s0⟩ := M
  obtain ⟨hx, hb, hml, hown, hts, hX, hG, hlk, hin, hsh, hroom, hfr, htr, htab, hscr⟩ := N
  obtain ⟨pc', lo, st, h⟩ := g
  obtain rfl : pc' = pc := hpc
  obtain ⟨x, z, st2, rfl, hg, rfl⟩ := i_li hf
  simp only [Bool.and_eq_true] at hg
  refine ⟨_, rfl, fun hcF hsF k => ?_⟩
  intro H ls locs cells slots hH hl hc hs
  refine lv_lshl hx hb hd (v := lN (x * 2 ^ z % 18446744073709551616)) (by rw [hG.2.1 z (l32_lt hg.1), n64m, wb_shl x (Nat.lt_succ_of_le (Nat.le_of_ble_eq_true hg.2))]) ?_
  exact k H ls locs cells slots hH hl hc hs
theorem s_lushr {y pc a b c9 : Nat} (hd : decode (cb y) pc = .ok (.lushr, 1)) : e_P y pc (f_lushr a b c9) := by
  intro G B M d out E g r N hpc hf
  obtain ⟨p, l, e, R, s, m, args, below, meth, c, Q, c0, s0⟩ := M
  obtain ⟨hx, hb, hml, hown, hts, hX, hG, hlk, hin, hsh, hroom, hfr, htr, htab, hscr⟩ := N
  obtain ⟨pc', lo, st, h⟩ := g
  obtain rfl : pc' = pc := hpc
  obtain ⟨x, z, st2, rfl, hg, rfl⟩ := i_li hf
  simp only [Bool.and_eq_true] at hg
  refine ⟨_, rfl, fun hcF hsF k => ?_⟩
  intro H ls locs cells slots hH hl hc hs
  refine lv_lushr hx hb hd (v := lN (x / 2 ^ z % 18446744073709551616)) (by rw [hG.2.1 z (l32_lt hg.1), n64m, wb_shr (Nat.lt_succ_of_le (Nat.le_of_ble_eq_true hg.2.2)) (Nat.lt_succ_of_le (Nat.le_of_ble_eq_true hg.2.1))]) ?_
  exact k H ls locs cells slots hH hl hc hs
theorem n32_sar {x z : Nat} (hx : x < 4294967296) (hz : z < 32) : nI x >>> (nI z &&& 31) = nI (e_shr x z) := by
  unfold e_shr
  cases h : Nat.ble x 2147483647 with
  | true =>
    have h1 := Nat.le_of_ble_eq_true h
    exact pk_shrN (by omega) (nI z &&& 31) z (s_l z hz)
  | false =>
    have h1 : ¬ x ≤ 2147483647 := fun q => by rw [Nat.ble_eq_true_of_le q] at h; cases h
    have hd : (4294967295 - x) / 2 ^ z ≤ 4294967295 - x := Nat.div_le_self _ _
    rw [← Int32.toInt_inj, pk_shr (nI x) (nI z &&& 31) z (s_l z hz), Int.shiftRight_eq_div_pow]
    have e1 : (nI x).toInt = Int.negSucc (4294967295 - x) := by
      unfold nI
      rw [Int32.toInt_ofNat']
      simp only [Int.bmod_def, Int32.size]
      omega
    have e2 : (nI (4294967295 - (4294967295 - x) / 2 ^ z)).toInt = Int.negSucc ((4294967295 - x) / 2 ^ z) := by
      generalize (4294967295 - x) / 2 ^ z = q at hd
      unfold nI
      rw [Int32.toInt_ofNat']
      simp only [Int.bmod_def, Int32.size]
      omega
    show (nI x).toInt / ((2 ^ z : Nat) : Int) = (nI (4294967295 - (4294967295 - x) / 2 ^ z)).toInt
    rw [e1, e2, Int.negSucc_ediv _ (by exact_mod_cast Nat.two_pow_pos z), Int.negSucc_eq]
    rfl
theorem n32_i2b {x : Nat} (hx : x < 4294967296) : (nI x).toInt8.toInt32 = nI (e_i2b x) := by
  rw [← Int32.toInt_inj, Int8.toInt_toInt32, Int32.toInt_toInt8]
  unfold e_i2b nI
  cases h : Nat.ble (x % 256) 127 with
  | true =>
    have h1 := Nat.le_of_ble_eq_true h
    show ((Int32.ofNat x).toInt).bmod 256 = (Int32.ofNat (x % 256)).toInt
    rw [Int32.toInt_ofNat', Int32.toInt_ofNat']
    simp only [Int.bmod_def, Int32.size]
    omega
  | false =>
    have h1 : ¬ x % 256 ≤ 127 := fun q => by rw [Nat.ble_eq_true_of_le q] at h; cases h
    show ((Int32.ofNat x).toInt).bmod 256 = (Int32.ofNat (x % 256 + 4294967040)).toInt
    rw [Int32.toInt_ofNat', Int32.toInt_ofNat']
    simp only [Int.bmod_def, Int32.size]
    omega
theorem n32_neg {x : Nat} (hx : x < 4294967296) : -nI x = nI ((4294967296 - x) % 4294967296) := by
  have h := n32_sub 0 x (by omega)
  rw [show nI 0 = 0 from rfl, Int32.zero_sub, Nat.zero_add] at h
  rw [h, n32m]
theorem e_shr_lt {x y : Nat} (h : x < 4294967296) : e_shr x y < 4294967296 := by
  have h1 := Nat.div_le_self x (2 ^ y)
  unfold e_shr
  cases Nat.ble x 2147483647
  · exact Nat.lt_of_le_of_lt (Nat.sub_le _ _) (by decide)
  · show x / 2 ^ y < 4294967296
    omega
theorem e_i2b_lt (x : Nat) : e_i2b x < 4294967296 := by
  have h1 : x % 256 < 256 := Nat.mod_lt _ (by decide)
  unfold e_i2b
  cases Nat.ble (x % 256) 127
  · show x % 256 + 4294967040 < 4294967296
    omega
  · show x % 256 < 4294967296
    omega
theorem i_ishr {a b c9 : Nat} {E : eE} {B : eB} {pc : Nat} {lo : List (Nat × eV)} {st : List eV} {h : eH} {r : eG ⊕ eO} (hf : f_ishr a b c9 E B (pc, lo, st, h) = some r) : ∃ x y st2, st = .inl y :: .inl x :: st2 ∧ (l32 x && Nat.ble y 31) = true ∧ r = .inl (pc + 1, lo, .inl (e_shr x y) :: st2, h) := by
  unfold f_ishr at hf
  split at hf
  · rename_i p9 l9 y x st2 h9 heq
    cases heq
    cases hg : (l32 x && Nat.ble y 31) with
    | true =>
      rw [hg] at hf
      cases hf
      exact ⟨_, _, _, rfl, hg, rfl⟩
    | false => rw [hg] at hf; cases hf
  · cases hf
theorem s_ishr {y pc a b c9 : Nat} (hd : decode (cb y) pc = .ok (.ishr, 1)) : e_P y pc (f_ishr a b c9) := by
  intro G B M d out E g r N hpc hf
  obtain ⟨p, l, e, R, s, m, args, below, meth, c, Q, c0, s0⟩ := M
  obtain ⟨hx, hb, hml, hown, hts, hX, hG, hlk, hin, hsh, hroom, hfr, htr, htab, hscr⟩ := N
  obtain ⟨pc', lo, st, h⟩ := g
  obtain rfl : pc' = pc := hpc
  obtain ⟨x, z, st2, rfl, hg, rfl⟩ := i_ishr hf
  simp only [Bool.and_eq_true] at hg
  have h1 := l32_lt hg.1
  have h2 := Nat.le_of_ble_eq_true hg.2
  refine ⟨_, rfl, fun hcF hsF k => ?_⟩
  intro H ls locs cells slots hH hl hc hs
  refine lv_ishr hx hb hd ?_
  rw [show giv G x >>> (giv G z &&& 31) = giv G (e_shr x z) by rw [hG.2.1 x h1, hG.2.1 z (by omega), hG.2.1 _ (e_shr_lt h1), n32_sar h1 (by omega)]]
  exact k H ls locs cells slots hH hl hc hs
theorem s_iand {y pc a b c9 : Nat} (hd : decode (cb y) pc = .ok (.iand, 1)) : e_P y pc (f_iand a b c9) := by
  intro G B M d out E g r N hpc hf
  obtain ⟨p, l, e, R, s, m, args, below, meth, c, Q, c0, s0⟩ := M
  obtain ⟨hx, hb, hml, hown, hts, hX, hG, hlk, hin, hsh, hroom, hfr, htr, htab, hscr⟩ := N
  obtain ⟨pc', lo, st, h⟩ := g
  obtain rfl : pc' = pc := hpc
  obtain ⟨x, z, st2, rfl, hg, rfl⟩ := i_ii hf
  simp only [Bool.and_eq_true] at hg
  refine ⟨_, rfl, fun hcF hsF k => ?_⟩
  intro H ls locs cells slots hH hl hc hs
  refine lv_iand hx hb hd ?_
  rw [show giv G x &&& giv G z = giv G ((x &&& z) % 4294967296) by rw [hG.2.1 x (l32_lt hg.1.1), hG.2.1 z (l32_lt hg.1.2), hG.2.1 _ (Nat.mod_lt _ (by decide)), n32m, n32_and]]
  exact k H ls locs cells slots hH hl hc hs
theorem s_idiv {y pc a b c9 : Nat} (hd : decode (cb y) pc = .ok (.idiv, 1)) : e_P y pc (f_idiv a b c9) := by
  intro G B M d out E g r N hpc hf
  obtain ⟨p, l, e, R, s, m, args, below, meth, c, Q, c0, s0⟩ := M
  obtain ⟨hx, hb, hml, hown, hts, hX, hG, hlk, hin, hsh, hroom, hfr, htr, htab, hscr⟩ := N
  obtain ⟨pc', lo, st, h⟩ := g
  obtain rfl : pc' = pc := hpc
  obtain ⟨x, z, st2, rfl, hg, rfl⟩ := i_ii hf
  simp only [Bool.and_eq_true] at hg
  refine ⟨_, rfl, fun hcF hsF k => ?_⟩
  intro H ls locs cells slots hH hl hc hs
  have h3 := Nat.le_of_ble_eq_true hg.2.1.1
  have h4 := Nat.le_of_ble_eq_true hg.2.1.2
  have h5 := Nat.le_of_ble_eq_true hg.2.2
  have h6 : x / z ≤ x := Nat.div_le_self _ _
  refine lv_idiv hx hb hd (by rw [hG.2.1 z (l32_lt hg.1.2)]; exact nI_nz h5 h4) ?_
  rw [show giv G x / giv G z = giv G (x / z % 4294967296) by rw [hG.2.1 x (l32_lt hg.1.1), hG.2.1 z (l32_lt hg.1.2), hG.2.1 _ (Nat.mod_lt _ (by decide)), n32m, pk_div (by omega) (by omega) (by omega)]]
  exact k H ls locs cells slots hH hl hc hs
theorem s_irem {y pc a b c9 : Nat} (hd : decode (cb y) pc = .ok (.irem, 1)) : e_P y pc (f_irem a b c9) := by
  intro G B M d out E g r N hpc hf
  obtain ⟨p, l, e, R, s, m, args, below, meth, c, Q, c0, s0⟩ := M
  obtain ⟨hx, hb, hml, hown, hts, hX, hG, hlk, hin, hsh, hroom, hfr, htr, htab, hscr⟩ := N
  obtain ⟨pc', lo, st, h⟩ := g
  obtain rfl : pc' = pc := hpc
  obtain ⟨x, z, st2, rfl, hg, rfl⟩ := i_ii hf
  simp only [Bool.and_eq_true] at hg
  refine ⟨_, rfl, fun hcF hsF k => ?_⟩
  intro H ls locs cells slots hH hl hc hs
  have h3 := Nat.le_of_ble_eq_true hg.2.1.1
  have h4 := Nat.le_of_ble_eq_true hg.2.1.2
  have h5 := Nat.le_of_ble_eq_true hg.2.2
  refine lv_irem hx hb hd (by rw [hG.2.1 z (l32_lt hg.1.2)]; exact nI_nz h5 h4) ?_
  rw [show giv G x - giv G x / giv G z * giv G z = giv G (x % z % 4294967296) by rw [hG.2.1 x (l32_lt hg.1.1), hG.2.1 z (l32_lt hg.1.2), hG.2.1 _ (Nat.mod_lt _ (by decide)), n32m, pk_rem (by omega) (by omega) (by omega)]]
  exact k H ls locs cells slots hH hl hc hs
theorem i_i2b {a b c9 : Nat} {E : eE} {B : eB} {pc : Nat} {lo : List (Nat × eV)} {st : List eV} {h : eH} {r : eG ⊕ eO} (hf : f_i2b a b c9 E B (pc, lo, st, h) = some r) : ∃ x st2, st = .inl x :: st2 ∧ (l32 x) = true ∧ r = .inl (pc + 1, lo, .inl (e_i2b x) :: st2, h) := by
  unfold f_i2b at hf
  split at hf
  · rename_i p9 l9 x st2 h9 heq
    cases heq
    cases hg : (l32 x) with
    | true =>
      rw [hg] at hf
      cases hf
      exact ⟨_, _, rfl, hg, rfl⟩
    | false => rw [hg] at hf; cases hf
  · cases hf
theorem i_ineg {a b c9 : Nat} {E : eE} {B : eB} {pc : Nat} {lo : List (Nat × eV)} {st : List eV} {h : eH} {r : eG ⊕ eO} (hf : f_ineg a b c9 E B (pc, lo, st, h) = some r) : ∃ x st2, st = .inl x :: st2 ∧ (l32 x) = true ∧ r = .inl (pc + 1, lo, .inl ((4294967296 - x) % 4294967296) :: st2, h) := by
  unfold f_ineg at hf
  split at hf
  · rename_i p9 l9 x st2 h9 heq
    cases heq
    cases hg : (l32 x) with
    | true =>
      rw [hg] at hf
      cases hf
      exact ⟨_, _, rfl, hg, rfl⟩
    | false => rw [hg] at hf; cases hf
  · cases hf
theorem i_i2l {a b c9 : Nat} {E : eE} {B : eB} {pc : Nat} {lo : List (Nat × eV)} {st : List eV} {h : eH} {r : eG ⊕ eO} (hf : f_i2l a b c9 E B (pc, lo, st, h) = some r) : ∃ x st2, st = .inl x :: st2 ∧ (((Nat.ble x 2147483647) = true ∧ r = .inl (pc + 1, lo, .inr (.inl x) :: st2, h)) ∨ ((Nat.ble x 2147483647) = false ∧ (l32 x) = true ∧ r = .inl (pc + 1, lo, .inr (.inl (x + 18446744069414584320)) :: st2, h))) := by
  unfold f_i2l at hf
  split at hf
  · rename_i p9 l9 x st2 h9 heq
    cases heq
    cases hg : (Nat.ble x 2147483647) with
    | true =>
      rw [hg] at hf
      cases hf
      exact ⟨_, _, rfl, Or.inl ⟨hg, rfl⟩⟩
    | false =>
      rw [hg] at hf
      cases hg2 : (l32 x) with
      | true =>
        rw [hg2] at hf
        cases hf
        exact ⟨_, _, rfl, Or.inr ⟨hg, hg2, rfl⟩⟩
      | false => rw [hg2] at hf; cases hf
  · cases hf
theorem n32_b : ∀ n, n < 128 → (nI n).toInt8.toInt32 = nI n := by decide +kernel
theorem s_i2b {y pc a b c9 : Nat} (hd : decode (cb y) pc = .ok (.i2b, 1)) : e_P y pc (f_i2b a b c9) := by
  intro G B M d out E g r N hpc hf
  obtain ⟨p, l, e, R, s, m, args, below, meth, c, Q, c0, s0⟩ := M
  obtain ⟨hx, hb, hml, hown, hts, hX, hG, hlk, hin, hsh, hroom, hfr, htr, htab, hscr⟩ := N
  obtain ⟨pc', lo, st, h⟩ := g
  obtain rfl : pc' = pc := hpc
  obtain ⟨x, st2, rfl, hg, rfl⟩ := i_i2b hf
  refine ⟨_, rfl, fun hcF hsF k => ?_⟩
  intro H ls locs cells slots hH hl hc hs
  refine lv_i2b hx hb hd (v := giv G (e_i2b x)) (by rw [hG.2.1 x (l32_lt hg), hG.2.1 _ (e_i2b_lt x)]; exact n32_i2b (l32_lt hg)) ?_
  exact k H ls locs cells slots hH hl hc hs
theorem s_ineg {y pc a b c9 : Nat} (hd : decode (cb y) pc = .ok (.ineg, 1)) : e_P y pc (f_ineg a b c9) := by
  intro G B M d out E g r N hpc hf
  obtain ⟨p, l, e, R, s, m, args, below, meth, c, Q, c0, s0⟩ := M
  obtain ⟨hx, hb, hml, hown, hts, hX, hG, hlk, hin, hsh, hroom, hfr, htr, htab, hscr⟩ := N
  obtain ⟨pc', lo, st, h⟩ := g
  obtain rfl : pc' = pc := hpc
  obtain ⟨x, st2, rfl, hg, rfl⟩ := i_ineg hf
  refine ⟨_, rfl, fun hcF hsF k => ?_⟩
  intro H ls locs cells slots hH hl hc hs
  refine lv_ineg hx hb hd ?_
  rw [show -giv G x = giv G ((4294967296 - x) % 4294967296) by rw [hG.2.1 x (l32_lt hg), hG.2.1 _ (Nat.mod_lt _ (by decide)), n32_neg (l32_lt hg)]]
  exact k H ls locs cells slots hH hl hc hs
theorem s_i2l {y pc a b c9 : Nat} (hd : decode (cb y) pc = .ok (.i2l, 1)) : e_P y pc (f_i2l a b c9) := by
  intro G B M d out E g r N hpc hf
  obtain ⟨p, l, e, R, s, m, args, below, meth, c, Q, c0, s0⟩ := M
  obtain ⟨hx, hb, hml, hown, hts, hX, hG, hlk, hin, hsh, hroom, hfr, htr, htab, hscr⟩ := N
  obtain ⟨pc', lo, st, h⟩ := g
  obtain rfl : pc' = pc := hpc
  obtain ⟨x, st2, rfl, ⟨hg, rfl⟩ | ⟨hg0, hg, rfl⟩⟩ := i_i2l hf
  · have h1 := Nat.le_of_ble_eq_true hg
    refine ⟨_, rfl, fun hcF hsF k => ?_⟩
    intro H ls locs cells slots hH hl hc hs
    refine lv_i2l hx hb hd (v := lN x) (by rw [hG.2.1 x (by omega)]; exact nI_l (by omega)) ?_
    exact k H ls locs cells slots hH hl hc hs
  · have h1 : ¬ x ≤ 2147483647 := fun q => by rw [Nat.ble_eq_true_of_le q] at hg0; cases hg0
    refine ⟨_, rfl, fun hcF hsF k => ?_⟩
    intro H ls locs cells slots hH hl hc hs
    refine lv_i2l hx hb hd (v := lN (x + 18446744069414584320)) (by rw [hG.2.1 x (l32_lt hg)]; exact n32_i2l (by omega) (l32_lt hg)) ?_
    exact k H ls locs cells slots hH hl hc hs
theorem i_l2i {a b c9 : Nat} {E : eE} {B : eB} {pc : Nat} {lo : List (Nat × eV)} {st : List eV} {h : eH} {r : eG ⊕ eO} (hf : f_l2i a b c9 E B (pc, lo, st, h) = some r) : ∃ x st2, st = .inr (.inl x) :: st2 ∧ r = .inl (pc + 1, lo, .inl (x % 4294967296) :: st2, h) := by
  unfold f_l2i at hf
  split at hf
  · rename_i heq
    cases heq
    cases hf
    exact ⟨_, _, rfl, rfl⟩
  · cases hf
theorem s_l2i {y pc a b c9 : Nat} (hd : decode (cb y) pc = .ok (.l2i, 1)) : e_P y pc (f_l2i a b c9) := by
  intro G B M d out E g r N hpc hf
  obtain ⟨p, l, e, R, s, m, args, below, meth, c, Q, c0, s0⟩ := M
  obtain ⟨hx, hb, hml, hown, hts, hX, hG, hlk, hin, hsh, hroom, hfr, htr, htab, hscr⟩ := N
  obtain ⟨pc', lo, st, h⟩ := g
  obtain rfl : pc' = pc := hpc
  obtain ⟨x, st2, rfl, rfl⟩ := i_l2i hf
  refine ⟨_, rfl, fun hcF hsF k => ?_⟩
  intro H ls locs cells slots hH hl hc hs
  refine lv_l2i hx hb hd (v := giv G (x % 4294967296)) (by rw [hG.2.1 _ (Nat.mod_lt _ (by decide)), n32m, lN_i]) ?_
  exact k H ls locs cells slots hH hl hc hs
theorem e_lcmp {x y : Nat} (hx : x < 18446744073709551616) (hy : y < 18446744073709551616) : lg_cmp (lN x) (lN y) = cond (Nat.beq x y) 0 (cond (Nat.ble ((x + 9223372036854775808) % 18446744073709551616) ((y + 9223372036854775808) % 18446744073709551616)) (-1) 1) := by
  unfold lg_cmp
  have h1 := e_K64_lN hx
  have h2 := e_K64_lN hy
  cases hb : Nat.beq x y with
  | true =>
    have e : x = y := Nat.eq_of_beq_eq_true hb
    subst e
    rw [if_neg (by rw [gt_iff_lt, e_K64_lt]; omega), if_pos rfl]
    rfl
  | false =>
    have hne : ¬ x = y := fun e => by rw [e, Nat.beq_refl] at hb; cases hb
    have hne2 : ¬ lN x = lN y := fun e => by
      have := congrArg e_K64 e
      omega
    cases hc : Nat.ble ((x + 9223372036854775808) % 18446744073709551616) ((y + 9223372036854775808) % 18446744073709551616) with
    | true =>
      have := Nat.le_of_ble_eq_true hc
      rw [if_neg (by rw [gt_iff_lt, e_K64_lt]; omega), if_neg hne2]
      rfl
    | false =>
      have h3 : ¬ (x + 9223372036854775808) % 18446744073709551616 ≤ (y + 9223372036854775808) % 18446744073709551616 := fun q => by rw [Nat.ble_eq_true_of_le q] at hc; cases hc
      rw [if_pos (by rw [gt_iff_lt, e_K64_lt]; omega)]
      rfl
theorem i_lcmp {a b c9 : Nat} {E : eE} {B : eB} {pc : Nat} {lo : List (Nat × eV)} {st : List eV} {h : eH} {r : eG ⊕ eO} (hf : f_lcmp a b c9 E B (pc, lo, st, h) = some r) : ∃ x y st2, st = .inr (.inl y) :: .inr (.inl x) :: st2 ∧ x < 18446744073709551616 ∧ y < 18446744073709551616 ∧ r = .inl (pc + 1, lo, .inl (cond (Nat.beq x y) 0 (cond (Nat.ble ((x + 9223372036854775808) % 18446744073709551616) ((y + 9223372036854775808) % 18446744073709551616)) 4294967295 1)) :: st2, h) := by
  unfold f_lcmp at hf
  split at hf
  · rename_i p9 l9 y x st2 h9 heq
    cases heq
    cases hg : (Nat.ble x 18446744073709551615 && Nat.ble y 18446744073709551615) with
    | false => rw [hg] at hf; cases hf
    | true =>
      rw [hg] at hf
      simp only [Bool.and_eq_true] at hg
      refine ⟨x, y, _, rfl, Nat.lt_succ_of_le (Nat.le_of_ble_eq_true hg.1), Nat.lt_succ_of_le (Nat.le_of_ble_eq_true hg.2), ?_⟩
      cases hb : Nat.beq x y with
      | true => rw [hb] at hf; cases hf; rfl
      | false =>
        rw [hb] at hf
        cases hc : Nat.ble ((x + 9223372036854775808) % 18446744073709551616) ((y + 9223372036854775808) % 18446744073709551616) with
        | true => rw [hc] at hf; cases hf; rfl
        | false => rw [hc] at hf; cases hf; rfl
  · cases hf
theorem s_lcmp {y pc a b c9 : Nat} (hd : decode (cb y) pc = .ok (.lcmp, 1)) : e_P y pc (f_lcmp a b c9) := by
  intro G B M d out E g r N hpc hf
  obtain ⟨p, l, e, R, s, m, args, below, meth, c, Q, c0, s0⟩ := M
  obtain ⟨hx, hb, hml, hown, hts, hX, hG, hlk, hin, hsh, hroom, hfr, htr, htab, hscr⟩ := N
  obtain ⟨pc', lo, st, h⟩ := g
  obtain rfl : pc' = pc := hpc
  obtain ⟨x, z, st2, rfl, hx1, hz1, rfl⟩ := i_lcmp hf
  refine ⟨_, rfl, fun hcF hsF k => ?_⟩
  intro H ls locs cells slots hH hl hc hs
  refine W.lcmp hx hb hd ?_
  rw [show lg_cmp (lN x) (lN z) = giv G (cond (Nat.beq x z) 0 (cond (Nat.ble ((x + 9223372036854775808) % 18446744073709551616) ((z + 9223372036854775808) % 18446744073709551616)) 4294967295 1)) by
    rw [e_lcmp hx1 hz1]
    cases Nat.beq x z <;> cases Nat.ble ((x + 9223372036854775808) % 18446744073709551616) ((z + 9223372036854775808) % 18446744073709551616) <;> (dsimp only [cond]; rw [hG.2.1 _ (by decide)]; rfl)]
  exact k H ls locs cells slots hH hl hc hs
theorem i_dup {a b c9 : Nat} {E : eE} {B : eB} {pc : Nat} {lo : List (Nat × eV)} {st : List eV} {h : eH} {r : eG ⊕ eO} (hf : f_dup a b c9 E B (pc, lo, st, h) = some r) : ∃ v st2, st = v :: st2 ∧ (e_wide v) = false ∧ r = .inl (pc + 1, lo, v :: v :: st2, h) := by
  unfold f_dup at hf
  split at hf
  · rename_i p9 l9 v st2 h9 heq
    cases heq
    cases hg : (e_wide v) with
    | true => rw [hg] at hf; cases hf
    | false =>
      rw [hg] at hf
      cases hf
      exact ⟨_, _, rfl, hg, rfl⟩
  · cases hf
theorem i_pop {a b c9 : Nat} {E : eE} {B : eB} {pc : Nat} {lo : List (Nat × eV)} {st : List eV} {h : eH} {r : eG ⊕ eO} (hf : f_pop a b c9 E B (pc, lo, st, h) = some r) : ∃ v st2, st = v :: st2 ∧ (e_wide v) = false ∧ r = .inl (pc + 1, lo, st2, h) := by
  unfold f_pop at hf
  split at hf
  · rename_i p9 l9 v st2 h9 heq
    cases heq
    cases hg : (e_wide v) with
    | true => rw [hg] at hf; cases hf
    | false =>
      rw [hg] at hf
      cases hf
      exact ⟨_, _, rfl, hg, rfl⟩
  · cases hf
theorem i_dup2 {a b c9 : Nat} {E : eE} {B : eB} {pc : Nat} {lo : List (Nat × eV)} {st : List eV} {h : eH} {r : eG ⊕ eO} (hf : f_dup2 a b c9 E B (pc, lo, st, h) = some r) : ∃ v w st2, st = v :: w :: st2 ∧ (e_wide v || e_wide w) = false ∧ r = .inl (pc + 1, lo, v :: w :: v :: w :: st2, h) := by
  unfold f_dup2 at hf
  split at hf
  · rename_i p9 l9 v w st2 h9 heq
    cases heq
    cases hg : (e_wide v || e_wide w) with
    | true => rw [hg] at hf; cases hf
    | false =>
      rw [hg] at hf
      cases hf
      exact ⟨_, _, _, rfl, hg, rfl⟩
  · cases hf
theorem s_dup {y pc a b c9 : Nat} (hd : decode (cb y) pc = .ok (.dup, 1)) : e_P y pc (f_dup a b c9) := by
  intro G B M d out E g r N hpc hf
  obtain ⟨p, l, e, R, s, m, args, below, meth, c, Q, c0, s0⟩ := M
  obtain ⟨hx, hb, hml, hown, hts, hX, hG, hlk, hin, hsh, hroom, hfr, htr, htab, hscr⟩ := N
  obtain ⟨pc', lo, st, h⟩ := g
  obtain rfl : pc' = pc := hpc
  obtain ⟨v, st2, rfl, hg, rfl⟩ := i_dup hf
  refine ⟨_, rfl, fun hcF hsF k => ?_⟩
  intro H ls locs cells slots hH hl hc hs
  refine lv_dup hx hb hd (cV_cat1 hg) ?_
  exact k H ls locs cells slots hH hl hc hs
theorem s_pop {y pc a b c9 : Nat} (hd : decode (cb y) pc = .ok (.pop, 1)) : e_P y pc (f_pop a b c9) := by
  intro G B M d out E g r N hpc hf
  obtain ⟨p, l, e, R, s, m, args, below, meth, c, Q, c0, s0⟩ := M
  obtain ⟨hx, hb, hml, hown, hts, hX, hG, hlk, hin, hsh, hroom, hfr, htr, htab, hscr⟩ := N
  obtain ⟨pc', lo, st, h⟩ := g
  obtain rfl : pc' = pc := hpc
  obtain ⟨v, st2, rfl, hg, rfl⟩ := i_pop hf
  refine ⟨_, rfl, fun hcF hsF k => ?_⟩
  intro H ls locs cells slots hH hl hc hs
  refine lv_pop hx hb hd (cV_cat1 hg) ?_
  exact k H ls locs cells slots hH hl hc hs
theorem s_dup2 {y pc a b c9 : Nat} (hd : decode (cb y) pc = .ok (.dup2, 1)) : e_P y pc (f_dup2 a b c9) := by
  intro G B M d out E g r N hpc hf
  obtain ⟨p, l, e, R, s, m, args, below, meth, c, Q, c0, s0⟩ := M
  obtain ⟨hx, hb, hml, hown, hts, hX, hG, hlk, hin, hsh, hroom, hfr, htr, htab, hscr⟩ := N
  obtain ⟨pc', lo, st, h⟩ := g
  obtain rfl : pc' = pc := hpc
  obtain ⟨v, w, st2, rfl, hg, rfl⟩ := i_dup2 hf
  simp only [Bool.or_eq_false_iff] at hg
  refine ⟨_, rfl, fun hcF hsF k => ?_⟩
  intro H ls locs cells slots hH hl hc hs
  refine lv_dup2_11 hx hb hd (cV_cat1 hg.1) (cV_cat1 hg.2) ?_
  exact k H ls locs cells slots hH hl hc hs
theorem s_goto {y pc a b c9 : Nat} {off : Int} (ht : (pc : Int) + off = (a : Int)) (hd : decode (cb y) pc = .ok (.goto off, 3)) : e_P y pc (f_goto a b c9) := by
  intro G B M d out E g r N hpc hf
  obtain ⟨p, l, e, R, s, m, args, below, meth, c, Q, c0, s0⟩ := M
  obtain ⟨hx, hb, hml, hown, hts, hX, hG, hlk, hin, hsh, hroom, hfr, htr, htab, hscr⟩ := N
  obtain ⟨pc', lo, st, h⟩ := g
  obtain rfl : pc' = pc := hpc
  cases hf
  refine ⟨_, rfl, fun hcF hsF k => ?_⟩
  intro H ls locs cells slots hH hl hc hs
  refine lv_goto hx hb hd ht ?_
  exact k H ls locs cells slots hH hl hc hs
theorem i_go {o : Option Bool} {g1 g2 : eG} {r : eG ⊕ eO} (hf : e_go o g1 g2 = some r) : ∃ b, o = some b ∧ r = .inl (cond b g1 g2) := by
  unfold e_go at hf
  split at hf
  · cases hf; exact ⟨true, rfl, rfl⟩
  · cases hf; exact ⟨false, rfl, rfl⟩
  · cases hf
theorem i_if {k : Nat} {a b c9 : Nat} {E : eE} {B : eB} {pc : Nat} {lo : List (Nat × eV)} {st : List eV} {h : eH} {r : eG ⊕ eO} (hf : f_if k a b c9 E B (pc, lo, st, h) = some r) : ∃ x st2 q, st = .inl x :: st2 ∧ e_cmp k (e_rng B x) (2147483648, 2147483648) = some q ∧ r = .inl (cond q (a, lo, st2, h) (pc + 3, lo, st2, h)) := by
  unfold f_if at hf
  split at hf
  · rename_i heq
    cases heq
    obtain ⟨q, h1, h2⟩ := i_go hf
    exact ⟨_, _, q, rfl, h1, h2⟩
  · cases hf
theorem i_icmp {k : Nat} {a b c9 : Nat} {E : eE} {B : eB} {pc : Nat} {lo : List (Nat × eV)} {st : List eV} {h : eH} {r : eG ⊕ eO} (hf : f_icmp k a b c9 E B (pc, lo, st, h) = some r) : ∃ x y st2 q, st = .inl y :: .inl x :: st2 ∧ e_cmp k (e_rng B x) (e_rng B y) = some q ∧ r = .inl (cond q (a, lo, st2, h) (pc + 3, lo, st2, h)) := by
  unfold f_icmp at hf
  split at hf
  · rename_i heq
    cases heq
    obtain ⟨q, h1, h2⟩ := i_go hf
    exact ⟨_, _, _, q, rfl, h1, h2⟩
  · cases hf
theorem e_map_not {o : Option Bool} {q : Bool} (h : o.map not = some q) : o = some (!q) := by
  cases o with
  | none => cases h
  | some b => cases h; cases b <;> rfl
theorem e_nn {P : Prop} {q : Bool} (h : P ↔ (!q) = true) : ¬ P ↔ q = true := by cases q <;> simp_all
theorem e_z {G : GT} {B : eB} (hG : e_GOK G B) : (2147483648 : Nat) ≤ e_K 0 ∧ e_K 0 ≤ 2147483648 := by decide
theorem e_nlt {a b : Int32} : ¬ a < b ↔ b ≤ a := by rw [e_K_lt, e_K_le]; omega
theorem c_eq {u v : Nat × Nat} {x y : Int32} {q : Bool} (h0 : e_cmp 0 u v = some q) (hu : u.1 ≤ e_K x ∧ e_K x ≤ u.2) (hv : v.1 ≤ e_K y ∧ e_K y ≤ v.2) : (x = y ↔ q = true) := e_eq_s h0 hu hv
theorem c_ne {u v : Nat × Nat} {x y : Int32} {q : Bool} (h0 : e_cmp 1 u v = some q) (hu : u.1 ≤ e_K x ∧ e_K x ≤ u.2) (hv : v.1 ≤ e_K y ∧ e_K y ≤ v.2) : (¬ x = y ↔ q = true) := e_nn (e_eq_s (e_map_not h0) hu hv)
theorem c_lt {G : GT} {u v : Nat × Nat} {x y : Int32} {q : Bool} (h0 : e_cmp 2 u v = some q) (hu : u.1 ≤ e_K x ∧ e_K x ≤ u.2) (hv : v.1 ≤ e_K y ∧ e_K y ≤ v.2) : (x < y ↔ q = true) := e_lt_s (G := G) h0 hu hv
theorem c_ge {G : GT} {u v : Nat × Nat} {x y : Int32} {q : Bool} (h0 : e_cmp 3 u v = some q) (hu : u.1 ≤ e_K x ∧ e_K x ≤ u.2) (hv : v.1 ≤ e_K y ∧ e_K y ≤ v.2) : (y ≤ x ↔ q = true) := e_nlt.symm.trans (e_nn (e_lt_s (G := G) (e_map_not h0) hu hv))
theorem c_gt {G : GT} {u v : Nat × Nat} {x y : Int32} {q : Bool} (h0 : e_cmp 4 u v = some q) (hu : u.1 ≤ e_K x ∧ e_K x ≤ u.2) (hv : v.1 ≤ e_K y ∧ e_K y ≤ v.2) : (y < x ↔ q = true) := e_lt_s (G := G) h0 hv hu
theorem c_le {G : GT} {u v : Nat × Nat} {x y : Int32} {q : Bool} (h0 : e_cmp 5 u v = some q) (hu : u.1 ≤ e_K x ∧ e_K x ≤ u.2) (hv : v.1 ≤ e_K y ∧ e_K y ≤ v.2) : (x ≤ y ↔ q = true) := e_nlt.symm.trans (e_nn (e_lt_s (G := G) (e_map_not h0) hv hu))
theorem s_if_eq {y pc a b c9 : Nat} {off : Int} (ht : (pc : Int) + off = (a : Int)) (hd : decode (cb y) pc = .ok (.ifCond .eq off, 3)) : e_P y pc (f_if 0 a b c9) := by
  intro G B M d out E g r N hpc hf
  obtain ⟨p, l, e, R, s, m, args, below, meth, c, Q, c0, s0⟩ := M
  obtain ⟨hx, hb, hml, hown, hts, hX, hG, hlk, hin, hsh, hroom, hfr, htr, htab, hscr⟩ := N
  obtain ⟨pc', lo, st, h⟩ := g
  obtain rfl : pc' = pc := hpc
  obtain ⟨x, st2, q, rfl, hq0, rfl⟩ := i_if hf
  refine ⟨_, rfl, fun hcF hsF k => ?_⟩
  intro H ls locs cells slots hH hl hc hs
  have hq := c_eq hq0 (e_in hG x) (e_z hG)
  cases q with
  | true =>
    refine lv_if_eq hx hb hd ht (fun _ => ?_) (fun n => absurd (hq.mpr rfl) n)
    exact k H ls locs cells slots hH hl hc hs
  | false =>
    refine lv_if_eq hx hb hd ht (fun n => absurd (hq.mp n) (by decide)) (fun _ => ?_)
    exact k H ls locs cells slots hH hl hc hs
theorem s_icmp_eq {y pc a b c9 : Nat} {off : Int} (ht : (pc : Int) + off = (a : Int)) (hd : decode (cb y) pc = .ok (.if_icmp .eq off, 3)) : e_P y pc (f_icmp 0 a b c9) := by
  intro G B M d out E g r N hpc hf
  obtain ⟨p, l, e, R, s, m, args, below, meth, c, Q, c0, s0⟩ := M
  obtain ⟨hx, hb, hml, hown, hts, hX, hG, hlk, hin, hsh, hroom, hfr, htr, htab, hscr⟩ := N
  obtain ⟨pc', lo, st, h⟩ := g
  obtain rfl : pc' = pc := hpc
  obtain ⟨x, z, st2, q, rfl, hq0, rfl⟩ := i_icmp hf
  refine ⟨_, rfl, fun hcF hsF k => ?_⟩
  intro H ls locs cells slots hH hl hc hs
  have hq := c_eq hq0 (e_in hG x) (e_in hG z)
  cases q with
  | true =>
    refine lv_icmp_eq hx hb hd ht (fun _ => ?_) (fun n => absurd (hq.mpr rfl) n)
    exact k H ls locs cells slots hH hl hc hs
  | false =>
    refine lv_icmp_eq hx hb hd ht (fun n => absurd (hq.mp n) (by decide)) (fun _ => ?_)
    exact k H ls locs cells slots hH hl hc hs
theorem s_if_ne {y pc a b c9 : Nat} {off : Int} (ht : (pc : Int) + off = (a : Int)) (hd : decode (cb y) pc = .ok (.ifCond .ne off, 3)) : e_P y pc (f_if 1 a b c9) := by
  intro G B M d out E g r N hpc hf
  obtain ⟨p, l, e, R, s, m, args, below, meth, c, Q, c0, s0⟩ := M
  obtain ⟨hx, hb, hml, hown, hts, hX, hG, hlk, hin, hsh, hroom, hfr, htr, htab, hscr⟩ := N
  obtain ⟨pc', lo, st, h⟩ := g
  obtain rfl : pc' = pc := hpc
  obtain ⟨x, st2, q, rfl, hq0, rfl⟩ := i_if hf
  refine ⟨_, rfl, fun hcF hsF k => ?_⟩
  intro H ls locs cells slots hH hl hc hs
  have hq := c_ne hq0 (e_in hG x) (e_z hG)
  cases q with
  | true =>
    refine lv_if_ne hx hb hd ht (fun _ => ?_) (fun n => absurd n (hq.mpr rfl))
    exact k H ls locs cells slots hH hl hc hs
  | false =>
    refine lv_if_ne hx hb hd ht (fun n => absurd (hq.mp n) (by decide)) (fun _ => ?_)
    exact k H ls locs cells slots hH hl hc hs
theorem s_icmp_ne {y pc a b c9 : Nat} {off : Int} (ht : (pc : Int) + off = (a : Int)) (hd : decode (cb y) pc = .ok (.if_icmp .ne off, 3)) : e_P y pc (f_icmp 1 a b c9) := by
  intro G B M d out E g r N hpc hf
  obtain ⟨p, l, e, R, s, m, args, below, meth, c, Q, c0, s0⟩ := M
  obtain ⟨hx, hb, hml, hown, hts, hX, hG, hlk, hin, hsh, hroom, hfr, htr, htab, hscr⟩ := N
  obtain ⟨pc', lo, st, h⟩ := g
  obtain rfl : pc' = pc := hpc
  obtain ⟨x, z, st2, q, rfl, hq0, rfl⟩ := i_icmp hf
  refine ⟨_, rfl, fun hcF hsF k => ?_⟩
  intro H ls locs cells slots hH hl hc hs
  have hq := c_ne hq0 (e_in hG x) (e_in hG z)
  cases q with
  | true =>
    refine lv_icmp_ne hx hb hd ht (fun _ => ?_) (fun n => absurd n (hq.mpr rfl))
    exact k H ls locs cells slots hH hl hc hs
  | false =>
    refine lv_icmp_ne hx hb hd ht (fun n => absurd (hq.mp n) (by decide)) (fun _ => ?_)
    exact k H ls locs cells slots hH hl hc hs
theorem s_if_lt {y pc a b c9 : Nat} {off : Int} (ht : (pc : Int) + off = (a : Int)) (hd : decode (cb y) pc = .ok (.ifCond .lt off, 3)) : e_P y pc (f_if 2 a b c9) := by
  intro G B M d out E g r N hpc hf
  obtain ⟨p, l, e, R, s, m, args, below, meth, c, Q, c0, s0⟩ := M
  obtain ⟨hx, hb, hml, hown, hts, hX, hG, hlk, hin, hsh, hroom, hfr, htr, htab, hscr⟩ := N
  obtain ⟨pc', lo, st, h⟩ := g
  obtain rfl : pc' = pc := hpc
  obtain ⟨x, st2, q, rfl, hq0, rfl⟩ := i_if hf
  refine ⟨_, rfl, fun hcF hsF k => ?_⟩
  intro H ls locs cells slots hH hl hc hs
  have hq := c_lt (G := G) hq0 (e_in hG x) (e_z hG)
  cases q with
  | true =>
    refine lv_if_lt hx hb hd ht (fun _ => ?_) (fun n => absurd (hq.mpr rfl) n)
    exact k H ls locs cells slots hH hl hc hs
  | false =>
    refine lv_if_lt hx hb hd ht (fun n => absurd (hq.mp n) (by decide)) (fun _ => ?_)
    exact k H ls locs cells slots hH hl hc hs
theorem s_icmp_lt {y pc a b c9 : Nat} {off : Int} (ht : (pc : Int) + off = (a : Int)) (hd : decode (cb y) pc = .ok (.if_icmp .lt off, 3)) : e_P y pc (f_icmp 2 a b c9) := by
  intro G B M d out E g r N hpc hf
  obtain ⟨p, l, e, R, s, m, args, below, meth, c, Q, c0, s0⟩ := M
  obtain ⟨hx, hb, hml, hown, hts, hX, hG, hlk, hin, hsh, hroom, hfr, htr, htab, hscr⟩ := N
  obtain ⟨pc', lo, st, h⟩ := g
  obtain rfl : pc' = pc := hpc
  obtain ⟨x, z, st2, q, rfl, hq0, rfl⟩ := i_icmp hf
  refine ⟨_, rfl, fun hcF hsF k => ?_⟩
  intro H ls locs cells slots hH hl hc hs
  have hq := c_lt (G := G) hq0 (e_in hG x) (e_in hG z)
  cases q with
  | true =>
    refine lv_icmp_lt hx hb hd ht (fun _ => ?_) (fun n => absurd (hq.mpr rfl) n)
    exact k H ls locs cells slots hH hl hc hs
  | false =>
    refine lv_icmp_lt hx hb hd ht (fun n => absurd (hq.mp n) (by decide)) (fun _ => ?_)
    exact k H ls locs cells slots hH hl hc hs
theorem s_if_ge {y pc a b c9 : Nat} {off : Int} (ht : (pc : Int) + off = (a : Int)) (hd : decode (cb y) pc = .ok (.ifCond .ge off, 3)) : e_P y pc (f_if 3 a b c9) := by
  intro G B M d out E g r N hpc hf
  obtain ⟨p, l, e, R, s, m, args, below, meth, c, Q, c0, s0⟩ := M
  obtain ⟨hx, hb, hml, hown, hts, hX, hG, hlk, hin, hsh, hroom, hfr, htr, htab, hscr⟩ := N
  obtain ⟨pc', lo, st, h⟩ := g
  obtain rfl : pc' = pc := hpc
  obtain ⟨x, st2, q, rfl, hq0, rfl⟩ := i_if hf
  refine ⟨_, rfl, fun hcF hsF k => ?_⟩
  intro H ls locs cells slots hH hl hc hs
  have hq := c_ge (G := G) hq0 (e_in hG x) (e_z hG)
  cases q with
  | true =>
    refine lv_if_ge hx hb hd ht (fun _ => ?_) (fun n => absurd (hq.mpr rfl) n)
    exact k H ls locs cells slots hH hl hc hs
  | false =>
    refine lv_if_ge hx hb hd ht (fun n => absurd (hq.mp n) (by decide)) (fun _ => ?_)
    exact k H ls locs cells slots hH hl hc hs
theorem s_icmp_ge {y pc a b c9 : Nat} {off : Int} (ht : (pc : Int) + off = (a : Int)) (hd : decode (cb y) pc = .ok (.if_icmp .ge off, 3)) : e_P y pc (f_icmp 3 a b c9) := by
  intro G B M d out E g r N hpc hf
  obtain ⟨p, l, e, R, s, m, args, below, meth, c, Q, c0, s0⟩ := M
  obtain ⟨hx, hb, hml, hown, hts, hX, hG, hlk, hin, hsh, hroom, hfr, htr, htab, hscr⟩ := N
  obtain ⟨pc', lo, st, h⟩ := g
  obtain rfl : pc' = pc := hpc
  obtain ⟨x, z, st2, q, rfl, hq0, rfl⟩ := i_icmp hf
  refine ⟨_, rfl, fun hcF hsF k => ?_⟩
  intro H ls locs cells slots hH hl hc hs
  have hq := c_ge (G := G) hq0 (e_in hG x) (e_in hG z)
  cases q with
  | true =>
    refine lv_icmp_ge hx hb hd ht (fun _ => ?_) (fun n => absurd (hq.mpr rfl) n)
    exact k H ls locs cells slots hH hl hc hs
  | false =>
    refine lv_icmp_ge hx hb hd ht (fun n => absurd (hq.mp n) (by decide)) (fun _ => ?_)
    exact k H ls locs cells slots hH hl hc hs
theorem s_if_gt {y pc a b c9 : Nat} {off : Int} (ht : (pc : Int) + off = (a : Int)) (hd : decode (cb y) pc = .ok (.ifCond .gt off, 3)) : e_P y pc (f_if 4 a b c9) := by
  intro G B M d out E g r N hpc hf
  obtain ⟨p, l, e, R, s, m, args, below, meth, c, Q, c0, s0⟩ := M
  obtain ⟨hx, hb, hml, hown, hts, hX, hG, hlk, hin, hsh, hroom, hfr, htr, htab, hscr⟩ := N
  obtain ⟨pc', lo, st, h⟩ := g
  obtain rfl : pc' = pc := hpc
  obtain ⟨x, st2, q, rfl, hq0, rfl⟩ := i_if hf
  refine ⟨_, rfl, fun hcF hsF k => ?_⟩
  intro H ls locs cells slots hH hl hc hs
  have hq := c_gt (G := G) hq0 (e_in hG x) (e_z hG)
  cases q with
  | true =>
    refine lv_if_gt hx hb hd ht (fun _ => ?_) (fun n => absurd (hq.mpr rfl) n)
    exact k H ls locs cells slots hH hl hc hs
  | false =>
    refine lv_if_gt hx hb hd ht (fun n => absurd (hq.mp n) (by decide)) (fun _ => ?_)
    exact k H ls locs cells slots hH hl hc hs
theorem s_icmp_gt {y pc a b c9 : Nat} {off : Int} (ht : (pc : Int) + off = (a : Int)) (hd : decode (cb y) pc = .ok (.if_icmp .gt off, 3)) : e_P y pc (f_icmp 4 a b c9) := by
  intro G B M d out E g r N hpc hf
  obtain ⟨p, l, e, R, s, m, args, below, meth, c, Q, c0, s0⟩ := M
  obtain ⟨hx, hb, hml, hown, hts, hX, hG, hlk, hin, hsh, hroom, hfr, htr, htab, hscr⟩ := N
  obtain ⟨pc', lo, st, h⟩ := g
  obtain rfl : pc' = pc := hpc
  obtain ⟨x, z, st2, q, rfl, hq0, rfl⟩ := i_icmp hf
  refine ⟨_, rfl, fun hcF hsF k => ?_⟩
  intro H ls locs cells slots hH hl hc hs
  have hq := c_gt (G := G) hq0 (e_in hG x) (e_in hG z)
  cases q with
  | true =>
    refine lv_icmp_gt hx hb hd ht (fun _ => ?_) (fun n => absurd (hq.mpr rfl) n)
    exact k H ls locs cells slots hH hl hc hs
  | false =>
    refine lv_icmp_gt hx hb hd ht (fun n => absurd (hq.mp n) (by decide)) (fun _ => ?_)
    exact k H ls locs cells slots hH hl hc hs
theorem s_if_le {y pc a b c9 : Nat} {off : Int} (ht : (pc : Int) + off = (a : Int)) (hd : decode (cb y) pc = .ok (.ifCond .le off, 3)) : e_P y pc (f_if 5 a b c9) := by
  intro G B M d out E g r N hpc hf
  obtain ⟨p, l, e, R, s, m, args, below, meth, c, Q, c0, s0⟩ := M
  obtain ⟨hx, hb, hml, hown, hts, hX, hG, hlk, hin, hsh, hroom, hfr, htr, htab, hscr⟩ := N
  obtain ⟨pc', lo, st, h⟩ := g
  obtain rfl : pc' = pc := hpc
  obtain ⟨x, st2, q, rfl, hq0, rfl⟩ := i_if hf
  refine ⟨_, rfl, fun hcF hsF k => ?_⟩
  intro H ls locs cells slots hH hl hc hs
  have hq := c_le (G := G) hq0 (e_in hG x) (e_z hG)
  cases q with
  | true =>
    refine lv_if_le hx hb hd ht (fun _ => ?_) (fun n => absurd (hq.mpr rfl) n)
    exact k H ls locs cells slots hH hl hc hs
  | false =>
    refine lv_if_le hx hb hd ht (fun n => absurd (hq.mp n) (by decide)) (fun _ => ?_)
    exact k H ls locs cells slots hH hl hc hs
theorem s_icmp_le {y pc a b c9 : Nat} {off : Int} (ht : (pc : Int) + off = (a : Int)) (hd : decode (cb y) pc = .ok (.if_icmp .le off, 3)) : e_P y pc (f_icmp 5 a b c9) := by
  intro G B M d out E g r N hpc hf
  obtain ⟨p, l, e, R, s, m, args, below, meth, c, Q, c0, s0⟩ := M
  obtain ⟨hx, hb, hml, hown, hts, hX, hG, hlk, hin, hsh, hroom, hfr, htr, htab, hscr⟩ := N
  obtain ⟨pc', lo, st, h⟩ := g
  obtain rfl : pc' = pc := hpc
  obtain ⟨x, z, st2, q, rfl, hq0, rfl⟩ := i_icmp hf
  refine ⟨_, rfl, fun hcF hsF k => ?_⟩
  intro H ls locs cells slots hH hl hc hs
  have hq := c_le (G := G) hq0 (e_in hG x) (e_in hG z)
  cases q with
  | true =>
    refine lv_icmp_le hx hb hd ht (fun _ => ?_) (fun n => absurd (hq.mpr rfl) n)
    exact k H ls locs cells slots hH hl hc hs
  | false =>
    refine lv_icmp_le hx hb hd ht (fun n => absurd (hq.mp n) (by decide)) (fun _ => ?_)
    exact k H ls locs cells slots hH hl hc hs
