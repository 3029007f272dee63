/-! ===== the engine: values, cells, heap ===== -/
/-- an int, a long, a reference (0 null, k + 1 the k-th address) -/
abbrev eV : Type := Nat ⊕ (Nat ⊕ Nat)
/-- a cell: its kind (under 100 a class of vwCl, from 100 on an array), its length, what it holds -/
abbrev eC : Type := Nat × Nat × (Nat → eV)
noncomputable abbrev eT (n : Nat) : Type := Nat.rec (motive := fun _ => Type) eC (fun _ T => T × T) n
noncomputable def eget (n : Nat) : eT n → Nat → eC :=
  Nat.rec (motive := fun n => eT n → Nat → eC) (fun t _ => t) (fun n ih t i => cond (Nat.ble (2 ^ n) i) (ih (@Prod.snd (eT n) (eT n) t) (i - 2 ^ n)) (ih (@Prod.fst (eT n) (eT n) t) i)) n
noncomputable def eset (n : Nat) : eT n → Nat → eC → eT n :=
  Nat.rec (motive := fun n => eT n → Nat → eC → eT n) (fun _ _ v => v) (fun n ih t i v => cond (Nat.ble (2 ^ n) i) (@Prod.mk (eT n) (eT n) (@Prod.fst (eT n) (eT n) t) (ih (@Prod.snd (eT n) (eT n) t) (i - 2 ^ n) v)) (@Prod.mk (eT n) (eT n) (ih (@Prod.fst (eT n) (eT n) t) i v) (@Prod.snd (eT n) (eT n) t))) n
noncomputable def eall (n : Nat) (c : eC) : eT n := Nat.rec (motive := fun n => eT n) c (fun n t => @Prod.mk (eT n) (eT n) t t) n
theorem eget_s (n : Nat) (t : eT (n + 1)) (i : Nat) : eget (n + 1) t i = cond (Nat.ble (2 ^ n) i) (eget n (@Prod.snd (eT n) (eT n) t) (i - 2 ^ n)) (eget n (@Prod.fst (eT n) (eT n) t) i) := rfl
theorem eset_s (n : Nat) (t : eT (n + 1)) (i : Nat) (v : eC) : eset (n + 1) t i v = cond (Nat.ble (2 ^ n) i) (@Prod.mk (eT n) (eT n) (@Prod.fst (eT n) (eT n) t) (eset n (@Prod.snd (eT n) (eT n) t) (i - 2 ^ n) v)) (@Prod.mk (eT n) (eT n) (eset n (@Prod.fst (eT n) (eT n) t) i v) (@Prod.snd (eT n) (eT n) t)) := rfl
theorem eget_set : ∀ (n : Nat) (t : eT n) (i j : Nat) (v : eC), i < 2 ^ n → j < 2 ^ n → eget n (eset n t i v) j = if j = i then v else eget n t j := by
  intro n
  induction n with
  | zero =>
    intro t i j v hi hj
    have h1 : i = 0 := by simpa using hi
    have h2 : j = 0 := by simpa using hj
    rw [if_pos (by omega)]
    rfl
  | succ n ih =>
    intro t i j v hi hj
    have hp : 2 ^ (n + 1) = 2 ^ n + 2 ^ n := by rw [Nat.pow_succ]; omega
    rw [eset_s, eget_s, eget_s]
    cases h1 : Nat.ble (2 ^ n) i <;> cases h2 : Nat.ble (2 ^ n) j
    · have a1 : ¬ 2 ^ n ≤ i := fun h => by rw [Nat.ble_eq_true_of_le h] at h1; cases h1
      have a2 : ¬ 2 ^ n ≤ j := fun h => by rw [Nat.ble_eq_true_of_le h] at h2; cases h2
      exact ih _ i j v (by omega) (by omega)
    · have a1 : ¬ 2 ^ n ≤ i := fun h => by rw [Nat.ble_eq_true_of_le h] at h1; cases h1
      have a2 : 2 ^ n ≤ j := Nat.le_of_ble_eq_true h2
      rw [if_neg (by omega)]
      rfl
    · have a1 : 2 ^ n ≤ i := Nat.le_of_ble_eq_true h1
      have a2 : ¬ 2 ^ n ≤ j := fun h => by rw [Nat.ble_eq_true_of_le h] at h2; cases h2
      rw [if_neg (by omega)]
      rfl
    · have a1 : 2 ^ n ≤ i := Nat.le_of_ble_eq_true h1
      have a2 : 2 ^ n ≤ j := Nat.le_of_ble_eq_true h2
      have := ih (@Prod.snd (eT n) (eT n) t) (i - 2 ^ n) (j - 2 ^ n) v (by omega) (by omega)
      refine Eq.trans this ?_
      by_cases e : j = i
      · subst e; rw [if_pos rfl, if_pos rfl]
      · rw [if_neg (by omega), if_neg e]; rfl
/-- the heap: cells and slots counted, cells known, the cells -/
abbrev eH : Type := Nat × Nat × Nat × eT 10
abbrev e_cn (h : eH) : Nat := h.1
abbrev e_sl (h : eH) : Nat := h.2.1
abbrev e_sz (h : eH) : Nat := h.2.2.1
noncomputable def e_get (h : eH) (k : Nat) : eC := eget 10 h.2.2.2 k
noncomputable def e_set (h : eH) (k : Nat) (c : eC) : eH := (h.1, h.2.1, h.2.2.1, eset 10 h.2.2.2 k c)
noncomputable def e_push (h : eH) (c : eC) (n : Nat) : eH := (h.1 + 1, h.2.1 + n, h.2.2.1 + 1, eset 10 h.2.2.2 h.2.2.1 c)
theorem e_get_set {h : eH} {i j : Nat} {v : eC} (hi : i < 1024) (hj : j < 1024) : e_get (e_set h i v) j = if j = i then v else e_get h j := eget_set 10 _ i j v hi hj
theorem e_get_push {h : eH} {j n : Nat} {v : eC} (hi : e_sz h < 1024) (hj : j < 1024) : e_get (e_push h v n) j = if j = e_sz h then v else e_get h j := eget_set 10 _ _ j v hi hj
/-- pc, locals, stack, heap -/
abbrev eG : Type := Nat × List (Nat × eV) × List eV × eH
/-- a method's end: 0 nothing, 1 a value, from 2 on thrown -/
abbrev eO : Type := Nat × eV × eH
abbrev eR : Type := Option (eG ⊕ eO)
abbrev eE : Type := Nat → List eV → eH → Option eO
abbrev eB : Type := Nat → Nat × Nat
/-! numbers -/
theorem n32 (a b : Nat) (h : a % 4294967296 = b % 4294967296) : nI a = nI b := by
  unfold nI
  apply Int32.toBitVec_inj.mp
  apply BitVec.eq_of_toNat_eq
  simp [Int32.toBitVec_ofNat', BitVec.toNat_ofNat, h]
theorem n32m (a : Nat) : nI (a % 4294967296) = nI a := n32 _ _ (Nat.mod_mod _ _)
theorem n64 (a b : Nat) (h : a % 18446744073709551616 = b % 18446744073709551616) : lN a = lN b := by
  unfold lN
  apply Int64.toBitVec_inj.mp
  apply BitVec.eq_of_toNat_eq
  simp [Int64.toBitVec_ofNat', BitVec.toNat_ofNat, h]
theorem n64m (a : Nat) : lN (a % 18446744073709551616) = lN a := n64 _ _ (Nat.mod_mod _ _)
theorem n32_bv (n : Nat) : (nI n).toBitVec = BitVec.ofNat 32 n := rfl
theorem n64_bv (n : Nat) : (lN n).toBitVec = BitVec.ofNat 64 n := rfl
theorem n32_sub (x y : Nat) (hy : y ≤ 4294967296) : nI x - nI y = nI (x + (4294967296 - y)) := by
  have h : nI (x + (4294967296 - y)) + nI y = nI x := by
    rw [nI_add]
    exact n32 _ _ (by omega)
  rw [← h]
  simp
theorem n64_sub (x y : Nat) (hy : y ≤ 18446744073709551616) : lN x - lN y = lN (x + (18446744073709551616 - y)) := by
  have h : lN (x + (18446744073709551616 - y)) + lN y = lN x := by
    rw [lN_add]
    exact n64 _ _ (by omega)
  rw [← h]
  simp
theorem n32_and (a b : Nat) : nI a &&& nI b = nI (a &&& b) := by
  apply Int32.toBitVec_inj.mp
  apply BitVec.eq_of_toNat_eq
  simp only [Int32.toBitVec_and, n32_bv, BitVec.toNat_and, BitVec.toNat_ofNat, Nat.and_mod_two_pow]
theorem n32_or (a b : Nat) : nI a ||| nI b = nI (a ||| b) := by
  apply Int32.toBitVec_inj.mp
  apply BitVec.eq_of_toNat_eq
  simp only [Int32.toBitVec_or, n32_bv, BitVec.toNat_or, BitVec.toNat_ofNat, Nat.or_mod_two_pow]
theorem n32_xor (a b : Nat) : nI a ^^^ nI b = nI (a ^^^ b) := by
  apply Int32.toBitVec_inj.mp
  apply BitVec.eq_of_toNat_eq
  simp only [Int32.toBitVec_xor, n32_bv, BitVec.toNat_xor, BitVec.toNat_ofNat, Nat.xor_mod_two_pow]
theorem n64_and (a b : Nat) : lN a &&& lN b = lN (a &&& b) := by
  apply Int64.toBitVec_inj.mp
  apply BitVec.eq_of_toNat_eq
  simp only [Int64.toBitVec_and, n64_bv, BitVec.toNat_and, BitVec.toNat_ofNat, Nat.and_mod_two_pow]
theorem n64_or (a b : Nat) : lN a ||| lN b = lN (a ||| b) := by
  apply Int64.toBitVec_inj.mp
  apply BitVec.eq_of_toNat_eq
  simp only [Int64.toBitVec_or, n64_bv, BitVec.toNat_or, BitVec.toNat_ofNat, Nat.or_mod_two_pow]
theorem n64_xor (a b : Nat) : lN a ^^^ lN b = lN (a ^^^ b) := by
  apply Int64.toBitVec_inj.mp
  apply BitVec.eq_of_toNat_eq
  simp only [Int64.toBitVec_xor, n64_bv, BitVec.toNat_xor, BitVec.toNat_ofNat, Nat.xor_mod_two_pow]
/-- an int's place in the order -/
def e_K (x : Int32) : Nat := (x.toInt + 2147483648).toNat
theorem e_K_lt (x y : Int32) : x < y ↔ e_K x < e_K y := by
  rw [Int32.lt_iff_toInt_lt]
  have h1 := Int32.le_toInt x
  have h2 := Int32.le_toInt y
  unfold e_K
  omega
theorem e_K_le (x y : Int32) : x ≤ y ↔ e_K x ≤ e_K y := by
  rw [Int32.le_iff_toInt_le]
  have h1 := Int32.le_toInt x
  have h2 := Int32.le_toInt y
  unfold e_K
  omega
theorem e_K_eq (x y : Int32) : x = y ↔ e_K x = e_K y := by
  rw [← Int32.toInt_inj]
  have h1 := Int32.le_toInt x
  have h2 := Int32.le_toInt y
  unfold e_K
  omega
theorem e_K_nI {n : Nat} (h : n < 4294967296) : e_K (nI n) = (n + 2147483648) % 4294967296 := by
  unfold e_K nI
  rw [Int32.toInt_ofNat']
  simp only [Int.bmod_def, Int32.size]
  omega
