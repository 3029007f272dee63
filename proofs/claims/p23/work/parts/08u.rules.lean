/-! ===== rules with bounds ===== -/
theorem wk_getfb {B : eB} {d y pc pc2 : Nat} {L : List (Option eV)} {st : List eV} {M : Mm} {Q : Nat → eV → Mm → Prop} {k b c : Nat} {a bi l u : Int} (hr : Rw y pc pc2 3 80 k b c) (hf : Fdl a k b bi 0) (hb : l ≤ M a bi ∧ M a bi ≤ u) (hk : ∀ v : Int, l ≤ v → v ≤ u → M a bi = v → Wp B d y pc2 L (I v :: st) M Q) : Wp B d y pc L (R a :: st) M Q := wk_getfi hr hf rfl (hk _ hb.1 hb.2 rfl)
theorem wk_getfe {B : eB} {d y pc pc2 : Nat} {L : List (Option eV)} {st : List eV} {M : Mm} {Q : Nat → eV → Mm → Prop} {k b c : Nat} {a bi l u : Int} (hr : Rw y pc pc2 3 80 k b c) (hf : Fdl a k b bi 1) (hb : l ≤ M a bi ∧ M a bi ≤ u) (hk : ∀ v : Nat, l ≤ v → v ≤ u → (M a bi).toNat = v → Wp B d y pc2 L (J v :: st) M Q) (hl : 0 ≤ l) : Wp B d y pc L (R a :: st) M Q := wk_getfl hr hf rfl (hk _ (by omega) (by omega) rfl)
theorem wk_ialdb {B : eB} {d y pc pc2 : Nat} {L : List (Option eV)} {st : List eV} {M : Mm} {Q : Nat → eV → Mm → Prop} {a b c : Nat} {o n i l u : Int} (hr : Rw y pc pc2 1 83 a b c) (ha : Ar o 100 n) (hi : 0 ≤ i ∧ i < n) (hb : 0 ≤ i → i < n → l ≤ M o i ∧ M o i ≤ u) (hk : ∀ v : Int, l ≤ v → v ≤ u → M o i = v → Wp B d y pc2 L (I v :: st) M Q) : Wp B d y pc L (I i :: R o :: st) M Q := wk_iald hr ha hi rfl (hk _ (hb hi.1 hi.2).1 (hb hi.1 hi.2).2 rfl)
theorem wk_baldb {B : eB} {d y pc pc2 : Nat} {L : List (Option eV)} {st : List eV} {M : Mm} {Q : Nat → eV → Mm → Prop} {a b c : Nat} {o n i l u : Int} (hr : Rw y pc pc2 1 85 a b c) (ha : Ar o 101 n) (hi : 0 ≤ i ∧ i < n) (hb : 0 ≤ i → i < n → l ≤ M o i ∧ M o i ≤ u) (hk : ∀ v : Int, l ≤ v → v ≤ u → M o i = v → Wp B d y pc2 L (I v :: st) M Q) : Wp B d y pc L (I i :: R o :: st) M Q := wk_bald hr ha hi rfl (hk _ (hb hi.1 hi.2).1 (hb hi.1 hi.2).2 rfl)
theorem wk_laldb {B : eB} {d y pc pc2 : Nat} {L : List (Option eV)} {st : List eV} {M : Mm} {Q : Nat → eV → Mm → Prop} {a b c : Nat} {o n i l u : Int} (hr : Rw y pc pc2 1 84 a b c) (ha : Ar o 102 n) (hi : 0 ≤ i ∧ i < n) (hb : 0 ≤ i → i < n → l ≤ M o i ∧ M o i ≤ u) (hl : 0 ≤ l) (hk : ∀ v : Nat, l ≤ v → v ≤ u → (M o i).toNat = v → Wp B d y pc2 L (J v :: st) M Q) : Wp B d y pc L (I i :: R o :: st) M Q := wk_lald hr ha hi rfl (hk _ (by have := hb hi.1 hi.2; omega) (by have := hb hi.1 hi.2; omega) rfl)
/-- an outer row: the rows in it lie one behind another -/
theorem wk_raldb {B : eB} {d y pc pc2 : Nat} {L : List (Option eV)} {st : List eV} {M : Mm} {Q : Nat → eV → Mm → Prop} {a b c : Nat} {o n i w : Int} (hr : Rw y pc pc2 1 87 a b c) (ha : Ar o 104 n) (hi : 0 ≤ i ∧ i < n) (hb : 0 ≤ i → i < n → M o i = w + i) (hk : Wp B d y pc2 L (R (w + i) :: st) M Q) : Wp B d y pc L (I i :: R o :: st) M Q := wk_rald hr ha hi (hb hi.1 hi.2) hk
theorem wk_caldb {B : eB} {d y pc pc2 : Nat} {L : List (Option eV)} {st : List eV} {M : Mm} {Q : Nat → eV → Mm → Prop} {a b c : Nat} {o n i w : Int} (hr : Rw y pc pc2 1 86 a b c) (ha : Ar o 103 n) (hi : 0 ≤ i ∧ i < n) (hb : 0 ≤ i → i < n → M o i = w + 2 * i) (hk : ∀ v : Int, v = w + 2 * i → Wp B d y pc2 L (R v :: st) M Q) : Wp B d y pc L (I i :: R o :: st) M Q := wk_cald hr ha hi (hb hi.1 hi.2) (hk _ rfl)
/-! writes: the memory behind them is a new name -/
theorem wk_nw {B : eB} {d y pc m g9 : Nat} {L : List (Option eV)} {st : List eV} {M0 M : Mm} {Q : Nat → eV → Mm → Prop} {a i z : Int} (hg : grp a i = g9) (hm : Nat.testBit m g9 = true) (hP : Pw M) (hF : Fr m M0 M) (hz : Bd a i z) (hk : ∀ M2 : Mm, Pw M2 → Fr m M0 M2 → M2 = mUp M a i z → Wp B d y pc L st M2 Q) : Wp B d y pc L st (mUp M a i z) Q := hk _ (hP.up hz) (hF.up hg hm) rfl
/-! numbers with bounds -/
theorem pw_le {k K : Int} (h : k ≤ K) : 1 ≤ pw k ∧ pw k ≤ pw K := ⟨by have := pw_pos k; omega, pw_mono h⟩
theorem wk_shl1 {B : eB} {d y pc pc2 : Nat} {L : List (Option eV)} {st : List eV} {M : Mm} {Q : Nat → eV → Mm → Prop} {a b c : Nat} {k : Int} (K m : Int) (hr : Rw y pc pc2 1 36 a b c) (hw : 0 ≤ k ∧ k ≤ K) (hm : pw K = m ∧ K ≤ 30) (hk : ∀ r : Int, 1 ≤ r → r ≤ m → r = pw k → Wp B d y pc2 L (I r :: st) M Q) : Wp B d y pc L (I k :: I 1 :: st) M Q := by
  refine wk_ishl hr ⟨hw.1, by omega⟩ ?_
  rw [Int.one_mul]
  have := pw_le hw.2
  exact hk (pw k) this.1 (by omega) rfl
theorem wk_shlb {B : eB} {d y pc pc2 : Nat} {L : List (Option eV)} {st : List eV} {M : Mm} {Q : Nat → eV → Mm → Prop} {a b c : Nat} {z k : Int} (K m Z : Int) (hr : Rw y pc pc2 1 36 a b c) (hz : 0 ≤ z ∧ z ≤ Z) (hw : 0 ≤ k ∧ k ≤ K) (hm : pw K = m ∧ K ≤ 30) (hk : ∀ r : Int, 0 ≤ r → r ≤ Z * m → r = z * pw k → Wp B d y pc2 L (I r :: st) M Q) : Wp B d y pc L (I k :: I z :: st) M Q := by
  refine wk_ishl hr ⟨hw.1, by omega⟩ ?_
  have h1 := pw_le hw.2
  refine hk (z * pw k) (Int.mul_nonneg hz.1 (by omega)) ?_ rfl
  exact Int.mul_le_mul hz.2 (by omega) (by omega) (by omega)
theorem wk_shrb {B : eB} {d y pc pc2 : Nat} {L : List (Option eV)} {st : List eV} {M : Mm} {Q : Nat → eV → Mm → Prop} {a b c : Nat} {z k : Int} (hr : Rw y pc pc2 1 37 a b c) (hz : 0 ≤ z ∧ z < 2147483648) (hw : 0 ≤ k ∧ k ≤ 31) (hk : ∀ r : Int, 0 ≤ r → r ≤ z → r = z / pw k → Wp B d y pc2 L (I r :: st) M Q) : Wp B d y pc L (I k :: I z :: st) M Q := by
  refine wk_ishr hr ⟨by omega, hz.2⟩ hw ?_
  have h1 := pw_pos k
  refine hk (z / pw k) (Int.ediv_nonneg hz.1 (by omega)) ?_ rfl
  exact Int.ediv_le_self _ hz.1
theorem wk_shrx {B : eB} {d y pc pc2 : Nat} {L : List (Option eV)} {st : List eV} {M : Mm} {Q : Nat → eV → Mm → Prop} {a b c : Nat} {z k : Int} (hr : Rw y pc pc2 1 37 a b c) (hz : -2147483648 ≤ z ∧ z < 2147483648) (hw : 0 ≤ k ∧ k ≤ 31) (hk : ∀ r : Int, -2147483648 ≤ r → r < 2147483648 → Wp B d y pc2 L (I r :: st) M Q) : Wp B d y pc L (I k :: I z :: st) M Q := by
  refine wk_ishr hr hz hw ?_
  have h1 := pw_pos k
  refine hk (z / pw k) ?_ ?_
  · rw [Int.le_ediv_iff_mul_le h1]
    have : (-2147483648) * pw k ≤ -2147483648 * 1 := Int.mul_le_mul_of_nonpos_left (by decide) (by omega)
    omega
  · rw [Int.ediv_lt_iff_lt_mul h1]
    have : 2147483648 * 1 ≤ 2147483648 * pw k := Int.mul_le_mul_of_nonneg_left (by omega) (by decide)
    omega
theorem wk_mulb {B : eB} {d y pc pc2 : Nat} {L : List (Option eV)} {st : List eV} {M : Mm} {Q : Nat → eV → Mm → Prop} {a b c : Nat} {z w : Int} (Z W : Int) (hr : Rw y pc pc2 1 32 a b c) (hz : 0 ≤ z ∧ z ≤ Z) (hw : 0 ≤ w ∧ w ≤ W) (hk : ∀ r : Int, 0 ≤ r → r ≤ Z * W → r = z * w → Wp B d y pc2 L (I r :: st) M Q) : Wp B d y pc L (I w :: I z :: st) M Q := by
  refine wk_imul hr ?_
  exact hk (z * w) (Int.mul_nonneg hz.1 hw.1) (Int.mul_le_mul hz.2 hw.2 hw.1 (by omega)) rfl
/-- a number that may have wrapped -/
theorem wk_wrap {B : eB} {d y pc : Nat} {L : List (Option eV)} {st : List eV} {M : Mm} {Q : Nat → eV → Mm → Prop} {z : Int} (hk : ∀ r : Int, -2147483648 ≤ r → r < 2147483648 → r = (z + 2147483648) % 4294967296 - 2147483648 → Wp B d y pc L (I r :: st) M Q) : Wp B d y pc L (I z :: st) M Q := by
  have h := hk ((z + 2147483648) % 4294967296 - 2147483648) (by omega) (by omega) rfl
  have e : I ((z + 2147483648) % 4294967296 - 2147483648) = I z := by
    unfold I
    exact congrArg Sum.inl (cd_eq (by omega))
  rw [e] at h
  exact h
theorem lp_ind {P : Nat → Prop} (h : ∀ n, (∀ m, m < n → P m) → P n) : ∀ n, P n := fun n => Nat.strongRecOn n h
theorem wk_iandc {B : eB} {d y pc pc2 : Nat} {L : List (Option eV)} {st : List eV} {M : Mm} {Q : Nat → eV → Mm → Prop} {a b c : Nat} {z w : Int} (k : Nat) (m : Int) (hr : Rw y pc pc2 1 33 a b c) (hw : cd w = 2 ^ k - 1 ∧ k ≤ 31) (hm : ((2 ^ k : Nat) : Int) = m) (hk : Wp B d y pc2 L (I (z % m) :: st) M Q) : Wp B d y pc L (I w :: I z :: st) M Q := by
  subst hm
  exact wk_iandm k hr hw hk
theorem wk_iushrb {B : eB} {d y pc pc2 : Nat} {L : List (Option eV)} {st : List eV} {M : Mm} {Q : Nat → eV → Mm → Prop} {a b c : Nat} {z k : Int} (hr : Rw y pc pc2 1 38 a b c) (hw : 1 ≤ k ∧ k ≤ 31) (hk : ∀ r : Int, 0 ≤ r → r < 2147483648 → r = z % 4294967296 / pw k → Wp B d y pc2 L (I r :: st) M Q) : Wp B d y pc L (I k :: I z :: st) M Q := by
  refine wk_iushr hr ⟨by omega, hw.2⟩ (hk _ ?_ ?_ rfl)
  · exact Int.ediv_nonneg (by omega) (by have := pw_pos k; omega)
  · have h1 := pw_mono hw.1
    have h2 : pw 1 = 2 := by decide
    rw [Int.ediv_lt_iff_lt_mul (by omega)]
    have : 2147483648 * 2 ≤ 2147483648 * pw k := Int.mul_le_mul_of_nonneg_left (by omega) (by decide)
    omega
theorem wk_i2lb {B : eB} {d y pc pc2 : Nat} {L : List (Option eV)} {st : List eV} {M : Mm} {Q : Nat → eV → Mm → Prop} {a b c : Nat} {z : Int} (hr : Rw y pc pc2 1 48 a b c) (hz : -2147483648 ≤ z ∧ z < 2147483648) (hk : ∀ n : Nat, n < 18446744073709551616 → (0 ≤ z → (n : Int) = z) → Wp B d y pc2 L (J n :: st) M Q) : Wp B d y pc L (I z :: st) M Q :=
  wk_i2l hr hz (hk _ (by omega) (by omega))
/-! to forget locals -/
def LeL (L2 L : List (Option eV)) : Prop := ∀ (i : Nat) (v : eV), L2[i]? = some (some v) → L[i]? = some (some v)
theorem le_0 : LeL [] [] := fun i v h => h
theorem le_s {x : Option eV} {L2 L : List (Option eV)} (h : LeL L2 L) : LeL (x :: L2) (x :: L) := by
  intro i v hi
  cases i with
  | zero => exact hi
  | succ i => exact h i v hi
theorem le_n {x : Option eV} {L2 L : List (Option eV)} (h : LeL L2 L) : LeL (none :: L2) (x :: L) := by
  intro i v hi
  cases i with
  | zero => cases hi
  | succ i => exact h i v hi
theorem wp_fg {B : eB} {d y pc : Nat} {L2 L : List (Option eV)} {st : List eV} {M : Mm} {Q : Nat → eV → Mm → Prop} (h : LeL L2 L) (hk : Wp B d y pc L2 st M Q) : Wp B d y pc L st M Q := fun h1 lo hV hA => hk h1 lo hV (fun i v hi => hA i v (h i v hi))
/-- | of a small number and one whose lowest bits are 0 -/
theorem wk_iord {B : eB} {d y pc pc2 : Nat} {L : List (Option eV)} {st : List eV} {M : Mm} {Q : Nat → eV → Mm → Prop} {a b c : Nat} {z w : Int} (k : Nat) (m : Int) (hr : Rw y pc pc2 1 34 a b c) (hm : m = ((2 ^ k : Nat) : Int) ∧ k ≤ 30) (hz : 0 ≤ z ∧ z < m) (hw : 0 ≤ w ∧ w < 1073741824 ∧ w % m = 0) (hk : Wp B d y pc2 L (I (z + w) :: st) M Q) : Wp B d y pc L (I w :: I z :: st) M Q := by
  have hp : 2 ^ k ≤ 2 ^ 30 := Nat.pow_le_pow_right (by decide) hm.2
  refine r_plain hr rfl (fun E lo h _ _ => ?_) hk
  show cond (l32 (cd z) && l32 (cd w) && true) (eN (pc + 1) lo (.inl ((cd z ||| cd w) % 4294967296) :: st) h) none = _
  rw [cd_l32, cd_l32, (cd_pos2 (z := z) (by omega)).1, (cd_pos2 (z := w) (by omega)).1]
  have e1 : w.toNat = 2 ^ k * (w.toNat / 2 ^ k) := by
    have h1 : w.toNat % 2 ^ k = 0 := by
      have h2 := hw.2.2
      rw [hm.1] at h2
      have h3 : ((w.toNat % 2 ^ k : Nat) : Int) = 0 := by rw [Int.natCast_emod, Int.toNat_of_nonneg hw.1]; exact h2
      omega
    have := Nat.div_add_mod w.toNat (2 ^ k)
    omega
  have e2 : z.toNat ||| w.toNat = z.toNat + w.toNat := by
    rw [e1, Nat.or_comm, ← Nat.two_pow_add_eq_or_of_lt (by omega)]
    omega
  rw [e2]
  show eN (pc + 1) lo (.inl ((z.toNat + w.toNat) % 4294967296) :: st) h = eN (pc + 1) lo (.inl (cd (z + w)) :: st) h
  refine congrArg (fun x : Nat => eN (pc + 1) lo ((Sum.inl x : eV) :: st) h) ?_
  unfold cd
  omega
theorem wk_lorb {B : eB} {d y pc pc2 : Nat} {L : List (Option eV)} {st : List eV} {M : Mm} {Q : Nat → eV → Mm → Prop} {a b c n m : Nat} (hr : Rw y pc pc2 1 44 a b c) (hk : ∀ r : Nat, r < 18446744073709551616 → r = (n ||| m) % 18446744073709551616 → (n < 17592186044416 → m < 17592186044416 → r < 17592186044416) → Wp B d y pc2 L (J r :: st) M Q) : Wp B d y pc L (J m :: J n :: st) M Q :=
  wk_lor hr (fun r h1 h2 => hk r h1 h2 (fun q1 q2 => by rw [h2]; exact Nat.lt_of_le_of_lt (Nat.mod_le _ _) (Nat.or_lt_two_pow (n := 44) q1 q2)))
theorem wk_lshlb {B : eB} {d y pc pc2 : Nat} {L : List (Option eV)} {st : List eV} {M : Mm} {Q : Nat → eV → Mm → Prop} {a b c n : Nat} {k : Int} (hr : Rw y pc pc2 1 46 a b c) (hw : 0 ≤ k ∧ k ≤ 63) (hk : ∀ r : Nat, r < 18446744073709551616 → r = (n * 2 ^ k.toNat) % 18446744073709551616 → (n = 1 → k ≤ 43 → r < 17592186044416) → Wp B d y pc2 L (J r :: st) M Q) : Wp B d y pc L (I k :: J n :: st) M Q :=
  wk_lshl hr hw (hk _ (Nat.mod_lt _ (by decide)) rfl (fun q1 q2 => by
    subst q1
    have h : 2 ^ k.toNat ≤ 2 ^ 43 := Nat.pow_le_pow_right (by decide) (by omega)
    have h2 := Nat.mod_le (1 * 2 ^ k.toNat) 18446744073709551616
    omega))
/-! System.arraycopy -/
theorem V_cpy {h : eH} {M : Mm} (hV : V h M) {a b sp dp n : Int} (h0 : 0 ≤ a) (ha : a.toNat < 770) (hb0 : 0 ≤ b) (hb : b.toNat < 770) (hs : 0 ≤ sp) (hd : 0 ≤ dp) (hn : 0 ≤ n) (hk : ∀ i j : Nat, tyk (kd a.toNat) i = tyk (kd b.toNat) j) (hl : sp.toNat + n.toNat ≤ ln a.toNat) : V (e_set h b.toNat (kd b.toNat, ln b.toNat, e_cpy (e_get h a.toNat).2.2 (e_get h b.toNat).2.2 sp.toNat dp.toNat n.toNat)) (cpy M a b sp dp n) := by
  obtain ⟨h1, h2, h3, h4, h5⟩ := hV
  have em : cpy M a b sp dp n (-1) 0 = M (-1) 0 := cpy_ne (by omega)
  refine ⟨h1, by rw [em]; exact h2, by rw [em]; exact h3, by rw [em]; exact h4, fun q hq => ?_⟩
  rw [e_get_set (by omega) (by omega)]
  by_cases e : q = b.toNat
  · subst e
    rw [if_pos rfl]
    refine ⟨rfl, rfl, fun j hj => ?_⟩
    show cond (Nat.ble dp.toNat j && Nat.ble (j + 1) (dp.toNat + n.toNat)) ((e_get h a.toNat).2.2 (sp.toNat + (j - dp.toNat))) ((e_get h b.toNat).2.2 j) = _
    rw [Int.toNat_of_nonneg hb0]
    by_cases hc : dp.toNat ≤ j ∧ j + 1 ≤ dp.toNat + n.toNat
    · rw [b_and (Nat.ble_eq_true_of_le hc.1) (Nat.ble_eq_true_of_le hc.2)]
      show (e_get h a.toNat).2.2 (sp.toNat + (j - dp.toNat)) = dv (tyk (kd b.toNat) j) (if b = b ∧ dp ≤ (j : Int) ∧ (j : Int) < dp + n then M a (sp + ((j : Int) - dp)) else M b j)
      rw [if_pos ⟨rfl, by omega, by omega⟩, (h5 _ ha).2.2 _ (by omega), hk _ j, Int.toNat_of_nonneg h0]
      congr 2
      omega
    · have hf : (Nat.ble dp.toNat j && Nat.ble (j + 1) (dp.toNat + n.toNat)) = false := by
        rw [Bool.eq_false_iff]
        intro q
        simp only [Bool.and_eq_true] at q
        exact hc ⟨Nat.le_of_ble_eq_true q.1, Nat.le_of_ble_eq_true q.2⟩
      rw [hf]
      show (e_get h b.toNat).2.2 j = dv (tyk (kd b.toNat) j) (if b = b ∧ dp ≤ (j : Int) ∧ (j : Int) < dp + n then M a (sp + ((j : Int) - dp)) else M b j)
      rw [if_neg (by omega), (h5 _ hq).2.2 j hj, Int.toNat_of_nonneg hb0]
  · rw [if_neg e]
    refine ⟨(h5 q hq).1, (h5 q hq).2.1, fun j hj => ?_⟩
    rw [cpy_ne (by omega)]
    exact (h5 q hq).2.2 j hj
theorem g_copy {B : eB} {d y pc pc2 : Nat} {L : List (Option eV)} {st : List eV} {M : Mm} {Q : Nat → eV → Mm → Prop} {op a9 b9 c9 k : Nat} {a b n1 n2 sp dp n : Int} (hr : Rw y pc pc2 3 op a9 b9 c9) (hop : Nat.ble op 127 = true) (hf : xget eF 7 opT op = f_copy k) (ha : Ar a k n1) (hb : Ar b k n2) (hty : ∀ i j : Nat, tyk k i = tyk k j) (hs : 0 ≤ sp ∧ 0 ≤ dp ∧ 0 ≤ n ∧ sp + n ≤ n1 ∧ dp + n ≤ n2 ∧ a ≠ b) (hc : Nat.ble (e_cat st) 8 = true) (hk : Wp B d y pc2 L st (cpy M a b sp dp n) Q) : Wp B d y pc L (I n :: I dp :: R b :: I sp :: R a :: st) M Q := by
  refine r_step hr hop (fun E lo h hV hA => ?_) hk
  obtain ⟨f1, f2, f3, f4, f5⟩ := ha
  obtain ⟨g1, g2, g3, g4, g5⟩ := hb
  have e1 : cd n = n.toNat := cd_pos hs.2.2.1 (by omega)
  have e2 : cd sp = sp.toNat := cd_pos hs.1 (by omega)
  have e3 : cd dp = dp.toNat := cd_pos hs.2.1 (by omega)
  refine ⟨lo, e_set h b.toNat (kd b.toNat, ln b.toNat, e_cpy (e_get h a.toNat).2.2 (e_get h b.toNat).2.2 sp.toNat dp.toNat n.toNat), ?_, Nat.le_refl _, Nat.le_refl _, V_cpy hV f1 f2 g1 g2 hs.1 hs.2.1 hs.2.2.1 (by rw [f3, g3]; exact hty) (by omega), hA⟩
  rw [hf]
  show (match e_get h a.toNat with
    | (k1, m, f) => match e_get h b.toNat with
      | (k2, m2, f2) => cond (Nat.ble (a.toNat + 1) (e_sz h) && Nat.ble a.toNat 1023 && Nat.ble (b.toNat + 1) (e_sz h) && Nat.ble b.toNat 1023 && Nat.beq k1 k && Nat.beq k2 k && Nat.ble (cd sp + cd n) m && Nat.ble (cd dp + cd n) m2 && Nat.ble m 1000000 && Nat.ble m2 1000000 && !(Nat.beq a.toNat b.toNat) && Nat.ble (e_cat st) 8) (eN (pc + 3) lo st (e_set h b.toNat (k2, m2, e_cpy f f2 (cd sp) (cd dp) (cd n)))) none) = _
  rw [V_get hV f2, V_get hV g2, e1, e2, e3]
  show cond (Nat.ble (a.toNat + 1) (e_sz h) && Nat.ble a.toNat 1023 && Nat.ble (b.toNat + 1) (e_sz h) && Nat.ble b.toNat 1023 && Nat.beq (kd a.toNat) k && Nat.beq (kd b.toNat) k && Nat.ble (sp.toNat + n.toNat) (ln a.toNat) && Nat.ble (dp.toNat + n.toNat) (ln b.toNat) && Nat.ble (ln a.toNat) 1000000 && Nat.ble (ln b.toNat) 1000000 && !(Nat.beq a.toNat b.toNat) && Nat.ble (e_cat st) 8) _ none = _
  have z1 : Nat.ble (a.toNat + 1) (e_sz h) = true := Nat.ble_eq_true_of_le (by rw [hV.1]; exact f2)
  have z2 : Nat.ble (b.toNat + 1) (e_sz h) = true := Nat.ble_eq_true_of_le (by rw [hV.1]; exact g2)
  have z3 : Nat.ble a.toNat 1023 = true := Nat.ble_eq_true_of_le (by omega)
  have z4 : Nat.ble b.toNat 1023 = true := Nat.ble_eq_true_of_le (by omega)
  have z5 : Nat.beq (kd a.toNat) k = true := by rw [f3]; exact Nat.beq_refl _
  have z6 : Nat.beq (kd b.toNat) k = true := by rw [g3]; exact Nat.beq_refl _
  have z7 : Nat.ble (sp.toNat + n.toNat) (ln a.toNat) = true := Nat.ble_eq_true_of_le (by omega)
  have z8 : Nat.ble (dp.toNat + n.toNat) (ln b.toNat) = true := Nat.ble_eq_true_of_le (by omega)
  rw [z1, z2, z3, z4, z5, z6, z7, z8, Nat.ble_eq_true_of_le f5, Nat.ble_eq_true_of_le g5, bf (show a.toNat ≠ b.toNat by omega), hc]
  rfl
theorem wk_copy109 {B : eB} {d y pc pc2 : Nat} {L : List (Option eV)} {st : List eV} {M : Mm} {Q : Nat → eV → Mm → Prop} {a9 b9 c9 : Nat} {a b n1 n2 sp dp n : Int} (hr : Rw y pc pc2 3 109 a9 b9 c9) (ha : Ar a 100 n1) (hb : Ar b 100 n2) (hs : 0 ≤ sp ∧ 0 ≤ dp ∧ 0 ≤ n ∧ sp + n ≤ n1 ∧ dp + n ≤ n2 ∧ a ≠ b) (hc : Nat.ble (e_cat st) 8 = true) (hk : Wp B d y pc2 L st (cpy M a b sp dp n) Q) : Wp B d y pc L (I n :: I dp :: R b :: I sp :: R a :: st) M Q := g_copy hr rfl rfl ha hb (fun _ _ => rfl) hs hc hk
theorem wk_copy110 {B : eB} {d y pc pc2 : Nat} {L : List (Option eV)} {st : List eV} {M : Mm} {Q : Nat → eV → Mm → Prop} {a9 b9 c9 : Nat} {a b n1 n2 sp dp n : Int} (hr : Rw y pc pc2 3 110 a9 b9 c9) (ha : Ar a 102 n1) (hb : Ar b 102 n2) (hs : 0 ≤ sp ∧ 0 ≤ dp ∧ 0 ≤ n ∧ sp + n ≤ n1 ∧ dp + n ≤ n2 ∧ a ≠ b) (hc : Nat.ble (e_cat st) 8 = true) (hk : Wp B d y pc2 L st (cpy M a b sp dp n) Q) : Wp B d y pc L (I n :: I dp :: R b :: I sp :: R a :: st) M Q := g_copy hr rfl rfl ha hb (fun _ _ => rfl) hs hc hk
theorem Pw.cp {M : Mm} {a b n : Int} (h : Pw M) (hz : ∀ i, 0 ≤ i → i < n → Bd b i (M a i)) : Pw (cpy M a b 0 0 n) := by
  intro a' i' h1 h2 h3 h4
  unfold cpy
  by_cases e : a' = b ∧ 0 ≤ i' ∧ i' < 0 + n
  · rw [if_pos e, show (0 : Int) + (i' - 0) = i' by omega, e.1]
    exact hz i' e.2.1 (by omega)
  · rw [if_neg e]
    exact h a' i' h1 h2 h3 h4
theorem Fr.cp {m : Nat} {M0 M : Mm} {a b n : Int} (h : Fr m M0 M) (hb : ∀ i, Nat.testBit m (grp b i) = true) : Fr m M0 (cpy M a b 0 0 n) := by
  intro a' i' hq
  rw [cpy_ne, h a' i' hq]
  intro e
  subst e
  rw [hb i'] at hq
  cases hq
theorem cpy_no {M M2 : Mm} {a b sp dp n a' i' v : Int} (e : M2 = cpy M a b sp dp n) (h : M a' i' = v) (hn : a' ≠ b) : M2 a' i' = v := by rw [e, cpy_ne hn, h]
theorem wk_nc {B : eB} {d y pc m : Nat} {L : List (Option eV)} {st : List eV} {M0 M : Mm} {Q : Nat → eV → Mm → Prop} {a b n : Int} (hm : ∀ i, Nat.testBit m (grp b i) = true) (hP : Pw M) (hF : Fr m M0 M) (hz : ∀ i, 0 ≤ i → i < n → Bd b i (M a i)) (hk : ∀ M2 : Mm, Pw M2 → Fr m M0 M2 → M2 = cpy M a b 0 0 n → Wp B d y pc L st M2 Q) : Wp B d y pc L st (cpy M a b 0 0 n) Q := hk _ (hP.cp hz) (hF.cp hm) rfl
/-! texts -/
def ls (t : Int) : Int := ((lenS.getD (t.toNat - 4097) 0 : Nat) : Int)
theorem ls_b : (List.range 36).all (fun i => Nat.ble (lenS.getD i 0) 40 && (List.range 41).all fun j => Nat.ble ((bytN.getD i []).getD j 0) 127) = true := by decide +kernel
theorem ls_rg {t : Int} (h : 4097 ≤ t ∧ t ≤ 4132) : 0 ≤ ls t ∧ ls t ≤ 40 := by
  have h1 := List.all_eq_true.mp ls_b (t.toNat - 4097) (List.mem_range.mpr (by omega))
  simp only [Bool.and_eq_true] at h1
  have h2 := Nat.le_of_ble_eq_true h1.1
  unfold ls
  omega
theorem ct_len {B : eB} (d : Nat) (M : Mm) {t : Int} (h : 4097 ≤ t ∧ t ≤ 4132) : Ct B (d + 1) 268 [R t] M (qI fun z M2 => M = M2 ∧ 0 ≤ z ∧ z ≤ 40 ∧ z = ls t) := by
  intro h1 hV
  have hr := ls_rg h
  refine ⟨(1, I (ls t), h1), M, ?_, Nat.le_refl _, Nat.le_refl _, hV, rfl, _, rfl, rfl, hr.1, hr.2, rfl⟩
  show cond (Nat.beq 268 268 && Nat.ble 4097 t.toNat && Nat.ble t.toNat 4132) (some (1, .inl (lenS.getD (t.toNat - 4097) 0), h1) : Option eO) none = _
  rw [show (Nat.beq 268 268 && Nat.ble 4097 t.toNat && Nat.ble t.toNat 4132) = true from b_and (b_and rfl (Nat.ble_eq_true_of_le (by omega))) (Nat.ble_eq_true_of_le (by omega))]
  show some (1, (Sum.inl (lenS.getD (t.toNat - 4097) 0) : eV), h1) = some (1, (Sum.inl (cd (ls t)) : eV), h1)
  have e : lenS.getD (t.toNat - 4097) 0 = cd (ls t) := by unfold ls at hr ⊢; unfold cd; omega
  rw [← e]
def chf (t i : Int) : Int := (((bytN.getD (t.toNat - 4097) []).getD i.toNat 0 : Nat) : Int)
theorem ct_cha {B : eB} (d : Nat) (M : Mm) {t i : Int} (h : 4097 ≤ t ∧ t ≤ 4132) (hi : 0 ≤ i ∧ i < ls t) : Ct B (d + 1) 269 [R t, I i] M (qI fun z M2 => M = M2 ∧ 0 ≤ z ∧ z ≤ 127 ∧ z = chf t i) := by
  intro h1 hV
  have hr := ls_rg h
  have e : cd i = i.toNat := cd_pos hi.1 (by omega)
  have hb := List.all_eq_true.mp ls_b (t.toNat - 4097) (List.mem_range.mpr (by omega))
  simp only [Bool.and_eq_true] at hb
  have hb2 := Nat.le_of_ble_eq_true (List.all_eq_true.mp hb.2 i.toNat (List.mem_range.mpr (by omega)))
  have hlt : i.toNat + 1 ≤ lenS.getD (t.toNat - 4097) 0 := by have := hi.2; unfold ls at this; omega
  refine ⟨(1, .inl ((bytN.getD (t.toNat - 4097) []).getD i.toNat 0), h1), M, ?_, Nat.le_refl _, Nat.le_refl _, hV, rfl, (((bytN.getD (t.toNat - 4097) []).getD i.toNat 0 : Nat) : Int), ?_, rfl, by omega, by omega, rfl⟩
  · show cond (Nat.beq 269 269 && Nat.ble 4097 t.toNat && Nat.ble t.toNat 4132 && Nat.ble (cd i + 1) (lenS.getD (t.toNat - 4097) 0)) (some (1, .inl ((bytN.getD (t.toNat - 4097) []).getD (cd i) 0), h1) : Option eO) none = _
    rw [e, show (Nat.beq 269 269 && Nat.ble 4097 t.toNat && Nat.ble t.toNat 4132 && Nat.ble (i.toNat + 1) (lenS.getD (t.toNat - 4097) 0)) = true from b_and (b_and (b_and rfl (Nat.ble_eq_true_of_le (by omega))) (Nat.ble_eq_true_of_le (by omega))) (Nat.ble_eq_true_of_le hlt)]
    rfl
  · show (Sum.inl _ : eV) = Sum.inl (cd _)
    rw [← cd_of_nat (by omega)]
theorem pw_succ {k : Int} (h : 0 ≤ k) : pw (k + 1) = 2 * pw k := by
  rw [pw_add h (by decide), show pw 1 = 2 by decide]
  omega
theorem wk_iord2 {B : eB} {d y pc pc2 : Nat} {L : List (Option eV)} {st : List eV} {M : Mm} {Q : Nat → eV → Mm → Prop} {a b c : Nat} {z w : Int} (k : Nat) (m : Int) (hr : Rw y pc pc2 1 34 a b c) (hm : m = ((2 ^ k : Nat) : Int) ∧ k ≤ 30) (hw : 0 ≤ w ∧ w < m) (hz : 0 ≤ z ∧ z < 1073741824 ∧ z % m = 0) (hk : Wp B d y pc2 L (I (z + w) :: st) M Q) : Wp B d y pc L (I w :: I z :: st) M Q := by
  have hp : 2 ^ k ≤ 2 ^ 30 := Nat.pow_le_pow_right (by decide) hm.2
  refine r_plain hr rfl (fun E lo h _ _ => ?_) hk
  show cond (l32 (cd z) && l32 (cd w) && true) (eN (pc + 1) lo (.inl ((cd z ||| cd w) % 4294967296) :: st) h) none = _
  rw [cd_l32, cd_l32, (cd_pos2 (z := z) (by omega)).1, (cd_pos2 (z := w) (by omega)).1]
  have e1 : z.toNat = 2 ^ k * (z.toNat / 2 ^ k) := by
    have h1 : z.toNat % 2 ^ k = 0 := by
      have h2 := hz.2.2
      rw [hm.1] at h2
      have h3 : ((z.toNat % 2 ^ k : Nat) : Int) = 0 := by rw [Int.natCast_emod, Int.toNat_of_nonneg hz.1]; exact h2
      omega
    have := Nat.div_add_mod z.toNat (2 ^ k)
    omega
  have e2 : z.toNat ||| w.toNat = z.toNat + w.toNat := by
    rw [e1, ← Nat.two_pow_add_eq_or_of_lt (by omega)]
  rw [e2]
  show eN (pc + 1) lo (.inl ((z.toNat + w.toNat) % 4294967296) :: st) h = eN (pc + 1) lo (.inl (cd (z + w)) :: st) h
  refine congrArg (fun x : Nat => eN (pc + 1) lo ((Sum.inl x : eV) :: st) h) ?_
  unfold cd
  omega
theorem wk_nwt {B : eB} {d y pc m : Nat} {L : List (Option eV)} {st : List eV} {M0 M : Mm} {Q : Nat → eV → Mm → Prop} {a i z : Int} (hm : Nat.testBit m (grp a i) = true) (hP : Pw M) (hF : Fr m M0 M) (hz : Bd a i z) (hk : ∀ M2 : Mm, Pw M2 → Fr m M0 M2 → M2 = mUp M a i z → Wp B d y pc L st M2 Q) : Wp B d y pc L st (mUp M a i z) Q := hk _ (hP.up hz) (hF.up rfl hm) rfl
/-- the token is this text -/
def WI (M : Mm) (t : Int) : Prop := M 9 4 = 1 ∧ M 9 2 - M 9 3 = ls t ∧ ∀ i, 0 ≤ i → i < ls t → M 1 (M 9 3 + i) = chf t i
theorem Fr.same {M M2 : Mm} (h : Fr 0 M M2) : M = M2 := by
  funext a i
  exact (h a i (Nat.zero_testBit _)).symm
/-! to count: those below m, and those that are m ahead of the i-th -/
def Cn (f : Int → Int) (m i : Int) : Nat → Int
  | 0 => 0
  | n + 1 => Cn f m i n + (if f n < m ∨ (f n = m ∧ (n : Int) < i) then 1 else 0)
theorem cn_le (f : Int → Int) (m i : Int) : ∀ n : Nat, 0 ≤ Cn f m i n ∧ Cn f m i n ≤ n := by
  intro n
  induction n with
  | zero => exact ⟨Int.le_refl _, Int.le_refl _⟩
  | succ n ih =>
    show 0 ≤ Cn f m i n + (if f n < m ∨ (f n = m ∧ (n : Int) < i) then 1 else 0) ∧ Cn f m i n + (if f n < m ∨ (f n = m ∧ (n : Int) < i) then 1 else 0) ≤ ((n + 1 : Nat) : Int)
    split <;> omega
theorem cn_zero {f : Int → Int} (h : ∀ k, 0 ≤ f k) : ∀ n : Nat, Cn f 0 0 n = 0 := by
  intro n
  induction n with
  | zero => rfl
  | succ n ih =>
    show Cn f 0 0 n + (if f n < 0 ∨ (f n = 0 ∧ (n : Int) < 0) then 1 else 0) = 0
    have := h n
    rw [ih, if_neg (by omega)]
    rfl
theorem cn_ne {f : Int → Int} {m i : Int} (h : f i ≠ m) : ∀ n : Nat, Cn f m (i + 1) n = Cn f m i n := by
  intro n
  induction n with
  | zero => rfl
  | succ n ih =>
    show Cn f m (i + 1) n + (if f n < m ∨ (f n = m ∧ (n : Int) < i + 1) then 1 else 0) = Cn f m i n + (if f n < m ∨ (f n = m ∧ (n : Int) < i) then 1 else 0)
    rw [ih]
    by_cases e : (n : Int) = i
    · rw [e]
      by_cases q : f i < m
      · rw [if_pos (Or.inl q), if_pos (Or.inl q)]
      · rw [if_neg (by omega), if_neg (by omega)]
    · by_cases q : f n < m ∨ (f n = m ∧ (n : Int) < i)
      · rw [if_pos q, if_pos (by omega)]
      · rw [if_neg q, if_neg (by omega)]
theorem cn_eq {f : Int → Int} {m i : Int} (h0 : 0 ≤ i) (h : f i = m) : ∀ n : Nat, Cn f m (i + 1) n = Cn f m i n + (if i < n then 1 else 0) := by
  intro n
  induction n with
  | zero =>
    rw [if_neg (by omega)]
    rfl
  | succ n ih =>
    show Cn f m (i + 1) n + (if f n < m ∨ (f n = m ∧ (n : Int) < i + 1) then 1 else 0) = Cn f m i n + (if f n < m ∨ (f n = m ∧ (n : Int) < i) then 1 else 0) + (if i < ((n + 1 : Nat) : Int) then 1 else 0)
    rw [ih]
    by_cases e : (n : Int) = i
    · rw [e, if_neg (show ¬ i < i by omega), if_pos (show f i < m ∨ (f i = m ∧ i < i + 1) by omega), if_neg (show ¬ (f i < m ∨ (f i = m ∧ i < i)) by omega), if_pos (show i < ((n + 1 : Nat) : Int) by omega)]
      all_goals omega
    · by_cases q : f n < m ∨ (f n = m ∧ (n : Int) < i)
      · rw [if_pos q, if_pos (show f n < m ∨ (f n = m ∧ (n : Int) < i + 1) by omega)]
        by_cases q2 : i < (n : Int)
        · rw [if_pos q2, if_pos (by omega)]
          all_goals omega
        · rw [if_neg q2, if_neg (by omega)]
          omega
      · rw [if_neg q, if_neg (show ¬ (f n < m ∨ (f n = m ∧ (n : Int) < i + 1)) by omega)]
        by_cases q2 : i < (n : Int)
        · rw [if_pos q2, if_pos (by omega)]
          omega
        · rw [if_neg q2, if_neg (by omega)]
          all_goals omega
theorem cn_end {f : Int → Int} {m : Int} {N : Int} : ∀ n : Nat, (n : Int) ≤ N → Cn f m N n = Cn f (m + 1) 0 n := by
  intro n
  induction n with
  | zero => intro _; rfl
  | succ n ih =>
    intro hN
    show Cn f m N n + (if f n < m ∨ (f n = m ∧ (n : Int) < N) then 1 else 0) = Cn f (m + 1) 0 n + (if f n < m + 1 ∨ (f n = m + 1 ∧ (n : Int) < 0) then 1 else 0)
    rw [ih (by omega)]
    by_cases q : f n < m + 1
    · rw [if_pos (Or.inl q), if_pos (by omega)]
    · rw [if_neg (by omega), if_neg (by omega)]
theorem cn_lt {f : Int → Int} {m i : Int} {n : Nat} (h0 : 0 ≤ i) (hi : i < n) (h : f i = m) : Cn f m i n + 1 ≤ n := by
  have h1 := cn_eq h0 h n
  have h2 := (cn_le f m (i + 1) n).2
  rw [if_pos hi] at h1
  omega
theorem wk_laddb {B : eB} {d y pc pc2 : Nat} {L : List (Option eV)} {st : List eV} {M : Mm} {Q : Nat → eV → Mm → Prop} {a b c n m : Nat} (hr : Rw y pc pc2 1 41 a b c) (hk : ∀ r : Nat, r < 18446744073709551616 → r = (n + m) % 18446744073709551616 → Wp B d y pc2 L (J r :: st) M Q) : Wp B d y pc L (J m :: J n :: st) M Q := wk_ladd hr (hk _ (Nat.mod_lt _ (by decide)) rfl)
theorem wk_lsubb {B : eB} {d y pc pc2 : Nat} {L : List (Option eV)} {st : List eV} {M : Mm} {Q : Nat → eV → Mm → Prop} {a b c n m : Nat} (hr : Rw y pc pc2 1 42 a b c) (hm : m < 18446744073709551616) (hk : ∀ r : Nat, r < 18446744073709551616 → r = (n + (18446744073709551616 - m)) % 18446744073709551616 → Wp B d y pc2 L (J r :: st) M Q) : Wp B d y pc L (J m :: J n :: st) M Q := wk_lsub hr hm (hk _ (Nat.mod_lt _ (by decide)) rfl)
theorem wk_lushrb {B : eB} {d y pc pc2 : Nat} {L : List (Option eV)} {st : List eV} {M : Mm} {Q : Nat → eV → Mm → Prop} {a b c n : Nat} {k : Int} (hr : Rw y pc pc2 1 47 a b c) (hn : n < 18446744073709551616) (hw : 0 ≤ k ∧ k ≤ 63) (hk : ∀ r : Nat, r < 18446744073709551616 → r = n / 2 ^ k.toNat → Wp B d y pc2 L (J r :: st) M Q) : Wp B d y pc L (I k :: J n :: st) M Q := wk_lushr hr hn hw (hk _ (Nat.lt_of_le_of_lt (Nat.div_le_self _ _) hn) rfl)
theorem tz_ex : ∀ n : Nat, 0 < n → ∃ t k, n = 2 ^ t * (2 * k + 1) := by
  intro n
  induction n using Nat.strongRecOn with
  | _ n ih =>
    intro h
    by_cases e : n % 2 = 1
    · exact ⟨0, n / 2, by rw [Nat.pow_zero]; omega⟩
    · obtain ⟨t, k, hk⟩ := ih (n / 2) (by omega) (by omega)
      refine ⟨t + 1, k, ?_⟩
      rw [Nat.pow_succ, Nat.mul_comm (2 ^ t) 2, Nat.mul_assoc, ← hk]
      omega
theorem tz_bits {n t k : Nat} (h : n = 2 ^ t * (2 * k + 1)) (hn : n < 18446744073709551616) : (n ^^^ 18446744073709551615) &&& (n - 1) = 2 ^ t - 1 := by
  have hp : 0 < 2 ^ t := Nat.two_pow_pos t
  have h1 : n - 1 = 2 ^ t * (2 * k) + (2 ^ t - 1) := by
    rw [h, Nat.mul_add, Nat.mul_one]
    omega
  apply Nat.eq_of_testBit_eq
  intro i
  have e0 : n.testBit i = (decide (i ≥ t) && (2 * k + 1).testBit (i - t)) := by rw [h, Nat.testBit_two_pow_mul]
  have e2 : (n - 1).testBit i = if i < t then (2 ^ t - 1).testBit i else (2 * k).testBit (i - t) := by rw [h1, Nat.testBit_two_pow_mul_add _ (by omega)]
  have e3 : (2 ^ t - 1).testBit i = decide (i < t) := Nat.testBit_two_pow_sub_one t i
  have e4 : (18446744073709551615 : Nat).testBit i = decide (i < 64) := Nat.testBit_two_pow_sub_one 64 i
  rw [Nat.testBit_and, Nat.testBit_xor, e2, e3, e4]
  have hbig : 64 ≤ i → n.testBit i = false := fun q => Nat.testBit_lt_two_pow (Nat.lt_of_lt_of_le hn (show (18446744073709551616 : Nat) ≤ 2 ^ i from Nat.pow_le_pow_right (n := 2) (i := 64) (j := i) (by decide) q))
  by_cases q1 : i < t
  · have ht : t < 64 := by
      refine Nat.lt_of_not_le (fun q => ?_)
      have h3 : (18446744073709551616 : Nat) ≤ 2 ^ t := Nat.pow_le_pow_right (n := 2) (i := 64) (j := t) (by decide) q
      have h4 : 2 ^ t ≤ 2 ^ t * (2 * k + 1) := Nat.le_mul_of_pos_right _ (by omega)
      omega
    rw [if_pos q1, e0, decide_eq_false (by omega), decide_eq_true q1, decide_eq_true (show i < 64 by omega)]
    rfl
  · rw [if_neg q1, decide_eq_false q1]
    by_cases q2 : 64 ≤ i
    · rw [hbig q2, decide_eq_false (by omega)]
      rfl
    · rw [e0, decide_eq_true (show i ≥ t by omega), decide_eq_true (show i < 64 by omega), Bool.true_and]
      by_cases q3 : i = t
      · subst q3
        rw [Nat.sub_self]
        simp [Nat.testBit_zero]
      · obtain ⟨j, hj⟩ : ∃ j, i - t = j + 1 := ⟨i - t - 1, by omega⟩
        rw [hj, Nat.testBit_succ, Nat.testBit_succ, show (2 * k + 1) / 2 = k by omega, show 2 * k / 2 = k by omega]
        cases k.testBit j <;> rfl
theorem tally_up {M M2 : Mm} {T kind v p : Int} (e : M2 = mUp M T kind (v + 1)) (hv : v ≤ p) (h : ∀ k : Int, 0 ≤ k → k < 5 → M T k ≤ p) : ∀ k : Int, 0 ≤ k → k < 5 → M2 T k ≤ p + 1 := by
  intro k h0 h1
  rw [e]
  by_cases q : k = kind
  · rw [q, mUp_eq]
    omega
  · rw [mUp_ne (Or.inr q)]
    have := h k h0 h1
    omega
theorem tz_fin {t : Nat} (h : t < 64) (c : Prop) (h2 : c → t < 44) : 0 ≤ (t : Int) ∧ (t : Int) ≤ 63 ∧ (c → (t : Int) ≤ 43) := ⟨by omega, by omega, fun q => by have := h2 q; omega⟩
/-- of which kind a code is -/
def kf (z : Int) : Int := if z ≤ 2 then z else z - 1
theorem wk_mula {B : eB} {d y pc pc2 : Nat} {L : List (Option eV)} {st : List eV} {M : Mm} {Q : Nat → eV → Mm → Prop} {a b c : Nat} {z w : Int} (Z W : Int) (hr : Rw y pc pc2 1 32 a b c) (hz : -Z ≤ z ∧ z ≤ Z) (hw : -W ≤ w ∧ w ≤ W) (hk : ∀ r : Int, -(Z * W) ≤ r → r ≤ Z * W → r = z * w → Wp B d y pc2 L (I r :: st) M Q) : Wp B d y pc L (I w :: I z :: st) M Q := by
  refine wk_imul hr ?_
  have h : (z * w).natAbs ≤ (Z * W).natAbs := by
    rw [Int.natAbs_mul, Int.natAbs_mul]
    exact Nat.mul_le_mul (by omega) (by omega)
  have h0 : 0 ≤ Z * W := Int.mul_nonneg (by omega) (by omega)
  exact hk (z * w) (by omega) (by omega) rfl
theorem toNat_succ {p : Int} (h : 0 ≤ p) : (p + 1).toNat = p.toNat + 1 := by omega
def eD (M : Mm) (P : Int) : Int := if M P 3 = -1 then 0 else M P 3
def lD (M : Mm) (P : Int) : Int := if M P 3 = -1 ∧ M P 5 ≠ 0 then 6 else eD M P
def lW (M : Mm) (P : Int) : Int := if M P 6 ≠ 0 then 1 else 0
def Rf (M : Mm) (P : Int) : Int := M P 2 * (lD M P - eD M P + 1) * (lW M P + 1)
def WC (M : Mm) : Prop := ∀ q : Int, 0 ≤ q → q < M 2 1 → M 3 q / pw (kf (M 15 q)) % 2 = 1
theorem WC_up {M M2 : Mm} {p v : Int} (e : M2 = mUp M 15 p v) (h : WC M) (hv : M 3 p / pw (kf v) % 2 = 1) : WC M2 := by
  intro q h0 h1
  rw [e, mUp_ne (Or.inl (by decide))] at h1
  rw [e, mUp_ne (Or.inl (by decide))]
  by_cases hq : q = p
  · rw [hq, mUp_eq]
    exact hv
  · rw [mUp_ne (Or.inr hq)]
    exact h q h0 h1
theorem WC_eq {M M2 : Mm} (h2 : M2 2 1 = M 2 1) (h3 : ∀ k, M2 3 k = M 3 k) (h15 : ∀ k, M2 15 k = M 15 k) (h : WC M) : WC M2 := by
  intro q h0 h1
  rw [h2] at h1
  rw [h3, h15]
  exact h q h0 h1
theorem pl_fr {m : Nat} {M M2 : Mm} (h : Fr m M M2) (b1 : Nat.testBit m 21 = false) (b2 : Nat.testBit m 22 = false) (b3 : Nat.testBit m 23 = false) (b4 : Nat.testBit m 24 = false) (b5 : Nat.testBit m 25 = false) (b6 : Nat.testBit m 26 = false) : ∀ i : Int, 1 ≤ i → i ≤ 6 → M2 2 i = M 2 i := by
  intro i h1 h2
  have h3 : i = 1 ∨ i = 2 ∨ i = 3 ∨ i = 4 ∨ i = 5 ∨ i = 6 := by omega
  rcases h3 with rfl | rfl | rfl | rfl | rfl | rfl
  · exact h.at g_2_1 b1
  · exact h.at g_2_2 b2
  · exact h.at g_2_3 b3
  · exact h.at g_2_4 b4
  · exact h.at g_2_5 b5
  · exact h.at g_2_6 b6
theorem cpy_at {M M2 : Mm} {a b n k : Int} (e : M2 = cpy M a b 0 0 n) (h0 : 0 ≤ k) (h1 : k < n) : M2 b k = M a k := by
  rw [e]
  unfold cpy
  rw [if_pos ⟨rfl, h0, by omega⟩, show (0 : Int) + (k - 0) = k by omega]
theorem six {P : Int → Prop} (h1 : P 1) (h2 : P 2) (h3 : P 3) (h4 : P 4) (h5 : P 5) (h6 : P 6) : ∀ i : Int, 1 ≤ i → i ≤ 6 → P i := by
  intro i a b
  have h : i = 1 ∨ i = 2 ∨ i = 3 ∨ i = 4 ∨ i = 5 ∨ i = 6 := by omega
  rcases h with rfl | rfl | rfl | rfl | rfl | rfl <;> assumption
theorem wc_step {M M2 : Mm} {n v : Int} (e : M2 = mUp M 15 n v) (h : ∀ q : Int, 0 ≤ q → q < n → q < M 2 1 → M 3 q / pw (kf (M 15 q)) % 2 = 1) (hv : n < M 2 1 → M 3 n / pw (kf v) % 2 = 1) : ∀ q : Int, 0 ≤ q → q < n + 1 → q < M2 2 1 → M2 3 q / pw (kf (M2 15 q)) % 2 = 1 := by
  intro q h0 h1 h2
  rw [e, mUp_ne (Or.inl (by decide))] at h2
  rw [e, mUp_ne (Or.inl (by decide))]
  by_cases hq : q = n
  · rw [hq, mUp_eq]
    rw [hq] at h2
    exact hv h2
  · rw [mUp_ne (Or.inr hq)]
    exact h q h0 (by omega) h2
theorem dm_up {M M2 : Mm} {p v : Int} (e : M2 = mUp M 8 p v) (h : ∀ k : Int, 0 ≤ k → k < 7 → 1 ≤ M 8 k) (hv : 1 ≤ v) : ∀ k : Int, 0 ≤ k → k < 7 → 1 ≤ M2 8 k := by
  intro k a b
  rw [e]
  by_cases q : k = p
  · rw [q, mUp_eq]
    exact hv
  · rw [mUp_ne (Or.inr q)]
    exact h k a b
