/-! ===== rules with bounds ===== -/
theorem wk_getfb {B : eB} {d y pc pc2 : Nat} {L : List (Option eV)} {st : List eV} {M : Mm} {Q : Nat → eV → Mm → Prop} {k b c : Nat} {a bi l u : Int} (hr : Rw y pc pc2 3 80 k b c) (hf : Fdl a k b bi 0) (hb : l ≤ M a bi ∧ M a bi ≤ u) (hk : ∀ v : Int, l ≤ v → v ≤ u → M a bi = v → Wp B d y pc2 L (I v :: st) M Q) : Wp B d y pc L (R a :: st) M Q := wk_getfi hr hf rfl (hk _ hb.1 hb.2 rfl)
theorem wk_getfe {B : eB} {d y pc pc2 : Nat} {L : List (Option eV)} {st : List eV} {M : Mm} {Q : Nat → eV → Mm → Prop} {k b c : Nat} {a bi l u : Int} (hr : Rw y pc pc2 3 80 k b c) (hf : Fdl a k b bi 1) (hb : l ≤ M a bi ∧ M a bi ≤ u) (hk : ∀ v : Nat, l ≤ v → v ≤ u → (M a bi).toNat = v → Wp B d y pc2 L (J v :: st) M Q) (hl : 0 ≤ l) : Wp B d y pc L (R a :: st) M Q := wk_getfl hr hf rfl (hk _ (by omega) (by omega) rfl)
theorem wk_ialdb {B : eB} {d y pc pc2 : Nat} {L : List (Option eV)} {st : List eV} {M : Mm} {Q : Nat → eV → Mm → Prop} {a b c : Nat} {o n i l u : Int} (hr : Rw y pc pc2 1 83 a b c) (ha : Ar o 100 n) (hi : 0 ≤ i ∧ i < n) (hb : 0 ≤ i → i < n → l ≤ M o i ∧ M o i ≤ u) (hk : ∀ v : Int, l ≤ v → v ≤ u → M o i = v → Wp B d y pc2 L (I v :: st) M Q) : Wp B d y pc L (I i :: R o :: st) M Q := wk_iald hr ha hi rfl (hk _ (hb hi.1 hi.2).1 (hb hi.1 hi.2).2 rfl)
theorem wk_baldb {B : eB} {d y pc pc2 : Nat} {L : List (Option eV)} {st : List eV} {M : Mm} {Q : Nat → eV → Mm → Prop} {a b c : Nat} {o n i l u : Int} (hr : Rw y pc pc2 1 85 a b c) (ha : Ar o 101 n) (hi : 0 ≤ i ∧ i < n) (hb : 0 ≤ i → i < n → l ≤ M o i ∧ M o i ≤ u) (hk : ∀ v : Int, l ≤ v → v ≤ u → M o i = v → Wp B d y pc2 L (I v :: st) M Q) : Wp B d y pc L (I i :: R o :: st) M Q := wk_bald hr ha hi rfl (hk _ (hb hi.1 hi.2).1 (hb hi.1 hi.2).2 rfl)
theorem wk_laldb {B : eB} {d y pc pc2 : Nat} {L : List (Option eV)} {st : List eV} {M : Mm} {Q : Nat → eV → Mm → Prop} {a b c : Nat} {o n i l u : Int} (hr : Rw y pc pc2 1 84 a b c) (ha : Ar o 102 n) (hi : 0 ≤ i ∧ i < n) (hb : 0 ≤ i → i < n → l ≤ M o i ∧ M o i ≤ u) (hl : 0 ≤ l) (hk : ∀ v : Nat, l ≤ v → v ≤ u → (M o i).toNat = v → Wp B d y pc2 L (J v :: st) M Q) : Wp B d y pc L (I i :: R o :: st) M Q := wk_lald hr ha hi rfl (hk _ (by have := hb hi.1 hi.2; omega) (by have := hb hi.1 hi.2; omega) rfl)
/-- an outer row: the rows in it lie one behind another -/
theorem wk_raldb {B : eB} {d y pc pc2 : Nat} {L : List (Option eV)} {st : List eV} {M : Mm} {Q : Nat → eV → Mm → Prop} {a b c : Nat} {o n i w : Int} (hr : Rw y pc pc2 1 87 a b c) (ha : Ar o 104 n) (hi : 0 ≤ i ∧ i < n) (hb : 0 ≤ i → i < n → M o i = w + i) (hk : Wp B d y pc2 L (R (w + i) :: st) M Q) : Wp B d y pc L (I i :: R o :: st) M Q := wk_rald hr ha hi (hb hi.1 hi.2) hk
theorem wk_caldb {B : eB} {d y pc pc2 : Nat} {L : List (Option eV)} {st : List eV} {M : Mm} {Q : Nat → eV → Mm → Prop} {a b c : Nat} {o n i w : Int} (hr : Rw y pc pc2 1 86 a b c) (ha : Ar o 103 n) (hi : 0 ≤ i ∧ i < n) (hb : 0 ≤ i → i < n → M o i = w + 2 * i) (hk : ∀ v : Int, v = w + 2 * i → Wp B d y pc2 L (R v :: st) M Q) : Wp B d y pc L (I i :: R o :: st) M Q := wk_cald hr ha hi (hb hi.1 hi.2) (hk _ rfl)
/-! writes: the memory behind them is a new name -/
theorem wk_nw {B : eB} {d y pc m g9 : Nat} {L : List (Option eV)} {st : List eV} {M0 M : Mm} {Q : Nat → eV → Mm → Prop} {a i z : Int} (hg : grp a i = g9) (hm : Nat.testBit m g9 = true) (hP : Pw M) (hF : Fr m M0 M) (hz : Bd a i z) (hk : ∀ M2 : Mm, Pw M2 → Fr m M0 M2 → M2 = mUp M a i z → Wp B d y pc L st M2 Q) : Wp B d y pc L st (mUp M a i z) Q := hk _ (hP.up hz) (hF.up hg hm) rfl
theorem wk_nf {B : eB} {d y pc m : Nat} {L : List (Option eV)} {st : List eV} {M0 M : Mm} {Q : Nat → eV → Mm → Prop} {a z : Int} (hm : ∀ i, Nat.testBit m (grp a i) = true) (hP : Pw M) (hF : Fr m M0 M) (hz : ∀ i, Bd a i z) (hk : ∀ M2 : Mm, Pw M2 → Fr m M0 M2 → M2 = fil M a z → Wp B d y pc L st M2 Q) : Wp B d y pc L st (fil M a z) Q := hk _ (hP.fil hz) (hF.fil hm) rfl
/-! numbers with bounds -/
theorem pw_le {k K : Int} (h : k ≤ K) : 1 ≤ pw k ∧ pw k ≤ pw K := ⟨by have := pw_pos k; omega, pw_mono h⟩
theorem wk_shl1 {B : eB} {d y pc pc2 : Nat} {L : List (Option eV)} {st : List eV} {M : Mm} {Q : Nat → eV → Mm → Prop} {a b c : Nat} {k : Int} (K m : Int) (hr : Rw y pc pc2 1 36 a b c) (hw : 0 ≤ k ∧ k ≤ K) (hm : pw K = m ∧ K ≤ 30) (hk : ∀ r : Int, 1 ≤ r → r ≤ m → r = pw k → Wp B d y pc2 L (I r :: st) M Q) : Wp B d y pc L (I k :: I 1 :: st) M Q := by
  refine wk_ishl hr ⟨hw.1, by omega⟩ ?_
  rw [Int.one_mul]
  have := pw_le hw.2
  exact hk (pw k) this.1 (by omega) rfl
theorem wk_shlb {B : eB} {d y pc pc2 : Nat} {L : List (Option eV)} {st : List eV} {M : Mm} {Q : Nat → eV → Mm → Prop} {a b c : Nat} {z k : Int} (K m Z : Int) (hr : Rw y pc pc2 1 36 a b c) (hz : 0 ≤ z ∧ z ≤ Z) (hw : 0 ≤ k ∧ k ≤ K) (hm : pw K = m ∧ K ≤ 30) (hk : ∀ r : Int, 0 ≤ r → r ≤ Z * m → r = z * pw k → Wp B d y pc2 L (I r :: st) M Q) : Wp B d y pc L (I k :: I z :: st) M Q := by
  refine wk_ishl hr ⟨hw.1, by omega⟩ ?_
  have h1 := pw_le hw.2
  refine hk (z * pw k) (Int.mul_nonneg hz.1 (by omega)) ?_ rfl
  exact Int.mul_le_mul hz.2 (by omega) (by omega) (by omega)
theorem wk_shrb {B : eB} {d y pc pc2 : Nat} {L : List (Option eV)} {st : List eV} {M : Mm} {Q : Nat → eV → Mm → Prop} {a b c : Nat} {z k : Int} (hr : Rw y pc pc2 1 37 a b c) (hz : 0 ≤ z ∧ z < 2147483648) (hw : 0 ≤ k ∧ k ≤ 31) (hk : ∀ r : Int, 0 ≤ r → r ≤ z → r = z / pw k → Wp B d y pc2 L (I r :: st) M Q) : Wp B d y pc L (I k :: I z :: st) M Q := by
  refine wk_ishr hr ⟨by omega, hz.2⟩ hw ?_
  have h1 := pw_pos k
  refine hk (z / pw k) (Int.ediv_nonneg hz.1 (by omega)) ?_ rfl
  exact Int.ediv_le_self _ hz.1
theorem wk_shrx {B : eB} {d y pc pc2 : Nat} {L : List (Option eV)} {st : List eV} {M : Mm} {Q : Nat → eV → Mm → Prop} {a b c : Nat} {z k : Int} (hr : Rw y pc pc2 1 37 a b c) (hz : -2147483648 ≤ z ∧ z < 2147483648) (hw : 0 ≤ k ∧ k ≤ 31) (hk : ∀ r : Int, -2147483648 ≤ r → r < 2147483648 → Wp B d y pc2 L (I r :: st) M Q) : Wp B d y pc L (I k :: I z :: st) M Q := by
  refine wk_ishr hr hz hw ?_
  have h1 := pw_pos k
  refine hk (z / pw k) ?_ ?_
  · rw [Int.le_ediv_iff_mul_le h1]
    have : (-2147483648) * pw k ≤ -2147483648 * 1 := Int.mul_le_mul_of_nonpos_left (by omega) (by decide)
    omega
  · rw [Int.ediv_lt_iff_lt_mul h1]
    have : 2147483648 * 1 ≤ 2147483648 * pw k := Int.mul_le_mul_of_nonneg_left (by omega) (by decide)
    omega
theorem wk_mulb {B : eB} {d y pc pc2 : Nat} {L : List (Option eV)} {st : List eV} {M : Mm} {Q : Nat → eV → Mm → Prop} {a b c : Nat} {z w : Int} (Z W : Int) (hr : Rw y pc pc2 1 32 a b c) (hz : 0 ≤ z ∧ z ≤ Z) (hw : 0 ≤ w ∧ w ≤ W) (hk : ∀ r : Int, 0 ≤ r → r ≤ Z * W → r = z * w → Wp B d y pc2 L (I r :: st) M Q) : Wp B d y pc L (I w :: I z :: st) M Q := by
  refine wk_imul hr ?_
  exact hk (z * w) (Int.mul_nonneg hz.1 hw.1) (Int.mul_le_mul hz.2 hw.2 hw.1 (by omega)) rfl
/-- a number that may have wrapped -/
theorem wk_wrap {B : eB} {d y pc : Nat} {L : List (Option eV)} {st : List eV} {M : Mm} {Q : Nat → eV → Mm → Prop} {z : Int} (hk : ∀ r : Int, -2147483648 ≤ r → r < 2147483648 → Wp B d y pc L (I r :: st) M Q) : Wp B d y pc L (I z :: st) M Q := by
  have h := hk ((z + 2147483648) % 4294967296 - 2147483648) (by omega) (by omega)
  have e : I ((z + 2147483648) % 4294967296 - 2147483648) = I z := by
    unfold I
    exact congrArg Sum.inl (cd_eq (by omega))
  rw [e] at h
  exact h
/-- a long that is only known to be one -/
theorem wk_anyl {B : eB} {d y pc : Nat} {L : List (Option eV)} {st : List eV} {M : Mm} {Q : Nat → eV → Mm → Prop} {n : Nat} (h : n < 18446744073709551616) (hk : ∀ r : Nat, r < 18446744073709551616 → Wp B d y pc L (J r :: st) M Q) : Wp B d y pc L (J n :: st) M Q := hk n h
theorem lp_ind {P : Nat → Prop} (h : ∀ n, (∀ m, m < n → P m) → P n) : ∀ n, P n := fun n => Nat.strongRecOn n h
theorem wk_ex {α : Type} (a : α) {P : Prop} (h : ∀ x, x = a → P) : P := h a rfl
theorem wk_iandc {B : eB} {d y pc pc2 : Nat} {L : List (Option eV)} {st : List eV} {M : Mm} {Q : Nat → eV → Mm → Prop} {a b c : Nat} {z w : Int} (k : Nat) (m : Int) (hr : Rw y pc pc2 1 33 a b c) (hw : cd w = 2 ^ k - 1 ∧ k ≤ 31) (hm : ((2 ^ k : Nat) : Int) = m) (hk : Wp B d y pc2 L (I (z % m) :: st) M Q) : Wp B d y pc L (I w :: I z :: st) M Q := by
  subst hm
  exact wk_iandm k hr hw hk
theorem wk_iushrb {B : eB} {d y pc pc2 : Nat} {L : List (Option eV)} {st : List eV} {M : Mm} {Q : Nat → eV → Mm → Prop} {a b c : Nat} {z k : Int} (hr : Rw y pc pc2 1 38 a b c) (hw : 1 ≤ k ∧ k ≤ 31) (hk : ∀ r : Int, 0 ≤ r → r < 2147483648 → r = z % 4294967296 / pw k → Wp B d y pc2 L (I r :: st) M Q) : Wp B d y pc L (I k :: I z :: st) M Q := by
  refine wk_iushr hr ⟨by omega, hw.2⟩ (hk _ ?_ ?_ rfl)
  · exact Int.ediv_nonneg (by omega) (by have := pw_pos k; omega)
  · have h1 := pw_mono hw.1
    have h2 : pw 1 = 2 := by decide
    rw [Int.ediv_lt_iff_lt_mul (by omega)]
    have : 2147483648 * 2 ≤ 2147483648 * pw k := Int.mul_le_mul_of_nonneg_left (by omega) (by decide)
    omega
theorem wk_i2lb {B : eB} {d y pc pc2 : Nat} {L : List (Option eV)} {st : List eV} {M : Mm} {Q : Nat → eV → Mm → Prop} {a b c : Nat} {z : Int} (hr : Rw y pc pc2 1 48 a b c) (hz : -2147483648 ≤ z ∧ z < 2147483648) (hk : ∀ n : Nat, n < 18446744073709551616 → (0 ≤ z → (n : Int) = z) → Wp B d y pc2 L (J n :: st) M Q) : Wp B d y pc L (I z :: st) M Q :=
  wk_i2l hr hz (hk _ (by omega) (by omega))
/-! to forget locals -/
def LeL (L2 L : List (Option eV)) : Prop := ∀ (i : Nat) (v : eV), L2[i]? = some (some v) → L[i]? = some (some v)
theorem le_0 : LeL [] [] := fun i v h => h
theorem le_s {x : Option eV} {L2 L : List (Option eV)} (h : LeL L2 L) : LeL (x :: L2) (x :: L) := by
  intro i v hi
  cases i with
  | zero => exact hi
  | succ i => exact h i v hi
theorem le_n {x : Option eV} {L2 L : List (Option eV)} (h : LeL L2 L) : LeL (none :: L2) (x :: L) := by
  intro i v hi
  cases i with
  | zero => cases hi
  | succ i => exact h i v hi
theorem wp_fg {B : eB} {d y pc : Nat} {L2 L : List (Option eV)} {st : List eV} {M : Mm} {Q : Nat → eV → Mm → Prop} (h : LeL L2 L) (hk : Wp B d y pc L2 st M Q) : Wp B d y pc L st M Q := fun h1 lo hV hA => hk h1 lo hV (fun i v hi => hA i v (h i v hi))
