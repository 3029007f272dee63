/-! ===== EVENTS, the class's ===== -/
theorem xor_1 {v r : Int} (hv : 0 ≤ v ∧ v ≤ 1) (e : r = ((v.toNat ^^^ (1 : Int).toNat : Nat) : Int)) : r = 1 - v := by
  have : v = 0 ∨ v = 1 := by omega
  rcases this with rfl | rfl
  · rw [e]; decide
  · rw [e]; decide
/-- where one could say what is so (x), or answer by the word -/
def ftV (M : Mm) (R0 ta p wd j : Int) (x : Bool) (b : Nat) : Bool := (tb M (R0 + (p * 5 + 4)) j b || (tb M (if wd = -1 then R0 + 118 else R0 + (46 + wd)) j b ^^ x ^^ tb M (R0 + (88 + 2 * p + M ta p)) j b))
theorem ft_cg {M M2 : Mm} {R0 ta p wd j : Int} {x : Bool} {b : Nat} (h : ∀ r : Int, 0 ≤ r → r ≤ 118 → (r < 102 ∨ 117 ≤ r) → M2 (R0 + r) j = M (R0 + r) j) (ht : M2 ta p = M ta p) (x0 : 0 ≤ p) (x6 : p ≤ 6) (hb : 0 ≤ M ta p ∧ M ta p ≤ 1) (hw : -1 ≤ wd ∧ wd ≤ 1) : ftV M2 R0 ta p wd j x b = ftV M R0 ta p wd j x b := by
  unfold ftV
  rw [ht, tb_eq (h (p * 5 + 4) (by omega) (by omega) (by omega)), tb_eq (h (88 + 2 * p + M ta p) (by omega) (by omega) (by omega))]
  by_cases q : wd = -1
  · rw [if_pos q, tb_eq (h 118 (by omega) (by omega) (by omega))]
  · rw [if_neg q, tb_eq (h (46 + wd) (by omega) (by omega) (by omega))]
/-- who is so in a WORLD could say what is so (s), or answer by the word -/
def csV (e : Ev) (p wd : Int) (s : Bool) : Bool := if e (20 + p) = 2 then true else ((if e (20 + p) = 1 then !s else s) == decide (wd = -1 ∨ e 12 = wd))
/-- in a WORLD that the rows tell: what one could say, answer -/
theorem ft_ok {M : Mm} {R0 ta pe j p wd : Int} {b : Nat} {e : Ev} {s : Bool} (h : RSb M R0 ta pe j b e) (p0 : 0 ≤ p) (p1 : p < pe) (p6 : p ≤ 6) (hw : wd = -1 ∨ wd = 0 ∨ wd = 1) (h5 : pe ≤ 7) : ftV M R0 ta p wd j s b = csV e p wd s := by
  have h1 := h.2.2.2.2 p p0 p1
  have hf : tb M (R0 + (p * 5 + 4)) j b = decide (e p = 4) := by
    rw [h.1 (p * 5 + 4) (by omega) (by omega), show (p * 5 + 4) / 5 = p by omega, show (p * 5 + 4) % 5 = (4 : Int) by omega]
  have hy : tb M (if wd = -1 then R0 + 118 else R0 + (46 + wd)) j b = decide (wd = -1 ∨ e 12 = wd) := by
    by_cases q : wd = -1
    · rw [if_pos q, h.2.2.1 118 (by decide) (by decide), rwv_118, decide_eq_true (Or.inl q)]
    · rw [if_neg q, h.2.1 (46 + wd) (by omega) (by omega)]
      unfold rwv
      rw [if_neg (by omega), if_neg (by omega), if_neg (by omega), if_pos (by omega), show 46 + wd - 46 = wd by omega]
      exact decide_eq_decide.mpr ⟨Or.inr, fun x => x.elim (fun y => absurd y q) id⟩
  unfold ftV csV
  rw [hf, hy]
  by_cases q : e p = 4
  · rw [decide_eq_true q, Bool.true_or, if_pos (h1.2.2.1.mpr q)]
  · have h2 : e (20 + p) ≠ 2 := fun x => q (h1.2.2.1.mp x)
    rw [decide_eq_false q, Bool.false_or, if_neg h2, h1.2.2.2.2.2 q]
    by_cases q1 : e (20 + p) = 1
    · rw [if_pos q1, decide_eq_false (show ¬ e (20 + p) = 0 by omega)]
      cases s <;> cases decide (wd = -1 ∨ e 12 = wd) <;> rfl
    · rw [if_neg q1, decide_eq_true (show e (20 + p) = 0 by omega)]
      cases s <;> cases decide (wd = -1 ∨ e 12 = wd) <;> rfl
/-! ===== picking among WORLDS ===== -/
theorem hold_1 {n r r2 : Nat} {k : Int} (e1 : r = n / 2 ^ k.toNat) (e2 : r2 = (r &&& 1) % 18446744073709551616) : (r2 = 1 ∧ Nat.testBit n k.toNat = true) ∨ (r2 ≠ 1 ∧ Nat.testBit n k.toNat = false) := by
  have h : Nat.testBit n k.toNat = decide (r % 2 = 1) := by rw [e1]; exact Nat.testBit_eq_decide_div_mod_eq
  have h2 : r2 = r % 2 := by
    have := Nat.and_two_pow_sub_one_eq_mod r 1
    rw [show (2 : Nat) ^ 1 - 1 = 1 by decide, show (2 : Nat) ^ 1 = 2 by decide] at this
    rw [e2, this]
    exact Nat.mod_eq_of_lt (by omega)
  rw [h, h2]
  by_cases q : r % 2 = 1
  · exact Or.inl ⟨q, decide_eq_true q⟩
  · exact Or.inr ⟨q, decide_eq_false q⟩
/-- the WORLD i of a row -/
def tbI (M : Mm) (a i : Int) : Bool := tb M a (i / 64) (i % 64).toNat
/-- how many of the first n are so -/
def cnB (f : Int → Bool) : Nat → Int
  | 0 => 0
  | n + 1 => cnB f n + b2i (f n)
theorem cnB_s {f : Int → Bool} {k : Int} (h : 0 ≤ k) : cnB f (k + 1).toNat = cnB f k.toNat + b2i (f k) := by
  rw [show (k + 1).toNat = k.toNat + 1 by omega]
  show cnB f k.toNat + b2i (f ((k.toNat : Nat) : Int)) = _
  rw [show ((k.toNat : Nat) : Int) = k by omega]
/-- the first of n that is the i-th so -/
def PCK (f : Int → Bool) (n i z : Int) : Prop := (z = -1 ∧ (i < 0 ∨ cnB f n.toNat ≤ i)) ∨ (0 ≤ z ∧ z < n ∧ 0 ≤ i ∧ f z = true ∧ cnB f z.toNat = i)
theorem PCK_one {f : Int → Bool} {n i z z2 : Int} (h : PCK f n i z) (h2 : PCK f n i z2) : z = z2 := by
  have mono : ∀ (a : Nat) (t : Nat), cnB f a ≤ cnB f (a + t) := by
    intro a t
    induction t with
    | zero => exact Int.le_refl _
    | succ t ih =>
      have := b2i_b (f ((a + t : Nat) : Int))
      have e : cnB f (a + (t + 1)) = cnB f (a + t) + b2i (f ((a + t : Nat) : Int)) := rfl
      omega
  have key : ∀ x y : Int, 0 ≤ x → x < y → f x = true → cnB f x.toNat + 1 ≤ cnB f y.toNat := fun x y x0 xy hx => by
    have e := cnB_s (f := f) x0
    rw [hx] at e
    have e1 : b2i true = 1 := rfl
    have m := mono (x + 1).toNat (y.toNat - (x + 1).toNat)
    rw [show (x + 1).toNat + (y.toNat - (x + 1).toNat) = y.toNat by omega] at m
    omega
  rcases h with ⟨a, b⟩ | ⟨a, b, c, d, e⟩ <;> rcases h2 with ⟨a2, b2⟩ | ⟨a2, b2, c2, d2, e2⟩
  · rw [a, a2]
  · have := key z2 n a2 b2 d2
    omega
  · have := key z n a b d
    omega
  · rcases Int.lt_trichotomy z z2 with q | q | q
    · have := key z z2 a q d
      omega
    · exact q
    · have := key z2 z a2 q d2
      omega
def wrI (v : Int) : Int := (v + 2147483648) % 4294967296 - 2147483648
/-- the next seed -/
def SDN (x : Int) : Int := wrI (wrI (x * 1103515245) + 12345)
/-- an EVENT more: who p, code c, word wd; k were -/
def RECP (M0 M : Mm) (p c wd k W : Int) : Prop := M 138 5 = k + 1 ∧ (∀ j : Int, M 139 j = if j = k then p else M0 139 j) ∧ (∀ j : Int, M 11 j = if j = p then 1 - M0 11 j else M0 11 j) ∧ (∀ (j : Int) (b : Nat) (x : Bool), 0 ≤ j → j < W → b < 64 → runF (stV M0 17 11 j b) (CL M0 c) [] = [x] → tb M (119 + k) j b = x ∧ tb M (142 + k) j b = ftV M0 17 11 p wd j x b ∧ tb M (156 + k) j b = (tb M0 (155 + k) j b && ftV M0 17 11 p wd j x b)) ∧ ∀ a i : Int, a ≠ 0 → a ≠ 12 → a ≠ 138 → a ≠ 139 → a ≠ 11 → a ≠ 119 + k → a ≠ 142 + k → a ≠ 156 + k → a ≠ 170 → M a i = M0 a i
theorem RECP_bs {M0 M1 M : Mm} {p c wd k W : Int} (h : RECP M1 M p c wd k W) (F : ∀ a i : Int, a ≠ 0 → a ≠ 12 → M1 a i = M0 a i) (hP : Pw M0) (hc : 679 ≤ c) (hs : ∀ x ∈ CL M0 c, stepok x) (hta : ∀ i : Int, 0 ≤ i → i < 7 → 0 ≤ M0 11 i ∧ M0 11 i ≤ 1) (hp : 0 ≤ p ∧ p ≤ 6) (hw : -1 ≤ wd ∧ wd ≤ 1) (hk : 0 ≤ k ∧ k ≤ 11) : RECP M0 M p c wd k W := by
  obtain ⟨q1, q2, q3, q4, q5⟩ := h
  refine ⟨q1, fun j => by rw [q2 j, F 139 j (by decide) (by decide)], fun j => by rw [q3 j, F 11 j (by decide) (by decide)], fun j b x a0 a1 hb hx => ?_, fun a i b0 b1 b2 b3 b4 b5 b6 b7 b8 => by rw [q5 a i b0 b1 b2 b3 b4 b5 b6 b7 b8, F a i b0 b1]⟩
  have q6 := q4 j b x a0 a1 hb (by
    rw [CL_cg (F c 1 (by omega) (by omega)) (fun k => F (c + 1) k (by omega) (by omega)), run_cg hs (fun r a b => F _ _ (by omega) (by omega)) (fun i a b => F _ _ (by decide) (by decide)) hta]
    exact hx)
  rw [ft_cg (M2 := M1) (M := M0) (fun r a b c => F _ _ (by omega) (by omega)) (F 11 _ (by decide) (by decide)) hp.1 hp.2 (hta p hp.1 (by omega)) hw, tb_eq (F (155 + k) j (by omega) (by omega))] at q6
  exact q6
theorem sd_bit (v : Int) : v % 4294967296 / 65536 % 2 = v / 65536 % 2 := by
  have e : v % 4294967296 = v + 65536 * (-(65536 * (v / 4294967296))) := by omega
  rw [e, Int.add_mul_ediv_left _ _ (by decide)]
  omega
