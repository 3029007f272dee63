/-! ===== 64 WORLDS side by side: what the class's steps answer ===== -/
def tb (M : Mm) (a j : Int) (b : Nat) : Bool := Nat.testBit (M a j).toNat b
def orK (f : Int → Bool) : Nat → Bool
  | 0 => false
  | n + 1 => orK f n || f n
theorem orK_s {f : Int → Bool} {k : Int} (h : 0 ≤ k) : orK f (k + 1).toNat = (orK f k.toNat || f k) := by
  rw [show (k + 1).toNat = k.toNat + 1 by omega]
  show (orK f k.toNat || f (k.toNat : Nat)) = _
  rw [show ((k.toNat : Nat) : Int) = k by omega]
theorem orK_iff {f : Int → Bool} : ∀ n : Nat, orK f n = true ↔ ∃ k : Nat, k < n ∧ f k = true := by
  intro n
  induction n with
  | zero => exact ⟨fun h => absurd h Bool.false_ne_true, fun ⟨k, hk, _⟩ => absurd hk (Nat.not_lt_zero _)⟩
  | succ n ih =>
    show (orK f n || f n) = true ↔ _
    rw [Bool.or_eq_true, ih]
    constructor
    · rintro (⟨k, a, b⟩ | a)
      · exact ⟨k, by omega, b⟩
      · exact ⟨n, by omega, a⟩
    · rintro ⟨k, a, b⟩
      by_cases q : k = n
      · exact Or.inr (q ▸ b)
      · exact Or.inl ⟨k, by omega, b⟩
theorem orK_cg {f g : Int → Bool} : ∀ n : Nat, (∀ k : Nat, k < n → f k = g k) → orK f n = orK g n := by
  intro n
  induction n with
  | zero => intro _; rfl
  | succ n ih =>
    intro h
    show (orK f n || f n) = (orK g n || g n)
    rw [ih (fun k hk => h k (by omega)), h n (by omega)]
theorem tbm {x b : Nat} (hb : b < 64) : Nat.testBit (x % 18446744073709551616) b = Nat.testBit x b := by
  rw [show (18446744073709551616 : Nat) = 2 ^ 64 by decide, Nat.testBit_mod_two_pow, decide_eq_true hb, Bool.true_and]
theorem tb_or {r x y b : Nat} (e : r = (x ||| y) % 18446744073709551616) (hb : b < 64) : Nat.testBit r b = (Nat.testBit x b || Nat.testBit y b) := by rw [e, tbm hb, Nat.testBit_or]
theorem tb_and {r x y b : Nat} (e : r = (x &&& y) % 18446744073709551616) (hb : b < 64) : Nat.testBit r b = (Nat.testBit x b && Nat.testBit y b) := by rw [e, tbm hb, Nat.testBit_and]
theorem tb_xor {r x y b : Nat} (e : r = (x ^^^ y) % 18446744073709551616) (hb : b < 64) : Nat.testBit r b = (Nat.testBit x b ^^ Nat.testBit y b) := by rw [e, tbm hb, Nat.testBit_xor]
theorem tb_el {M : Mm} {a j : Int} {n : Nat} (e : (M a j).toNat = n) (b : Nat) : tb M a j b = Nat.testBit n b := by
  unfold tb
  rw [e]
theorem tb_up {M : Mm} {a j : Int} {n : Nat} (e : M a j = (n : Int)) (b : Nat) : tb M a j b = Nat.testBit n b := tb_el (congrArg Int.toNat e) b
/-- the rows at R0 (turns at ta) tell e of the b-th of these WORLDS -/
def RSb (M : Mm) (R0 ta pe j : Int) (b : Nat) (e : Ev) : Prop :=
  (∀ r : Int, 0 ≤ r → r < 5 * pe → tb M (R0 + r) j b = decide (e (r / 5) = r % 5)) ∧
  (∀ r : Int, 35 ≤ r → r < 48 → tb M (R0 + r) j b = rwv e r) ∧ (∀ r : Int, 102 ≤ r → r ≤ 118 → tb M (R0 + r) j b = rwv e r) ∧
  (∀ k c : Int, 0 ≤ k → k ≤ 4 → 0 ≤ c → c ≤ 7 → tb M (R0 + (48 + 8 * k + c)) j b = decide (cnt e k = c)) ∧
  (∀ p : Int, 0 ≤ p → p < pe → 0 ≤ e p ∧ e p ≤ 4 ∧ (e (20 + p) = 2 ↔ e p = 4) ∧ 0 ≤ e (20 + p) ∧ e (20 + p) ≤ 2 ∧ (e p ≠ 4 → tb M (R0 + (88 + 2 * p + M ta p)) j b = decide (e (20 + p) = 0)))
/-- two of one KIND -/
theorem al_ok {M : Mm} {R0 ta pe j x y : Int} {b : Nat} {e : Ev} (h : RSb M R0 ta pe j b e) (x0 : 0 ≤ x) (x1 : x < pe) (y0 : 0 ≤ y) (y1 : y < pe) : orK (fun k => tb M (R0 + (x * 5 + k)) j b && tb M (R0 + (y * 5 + k)) j b) 5 = decide (e x = e y) := by
  have hk : ∀ z : Int, 0 ≤ z → z < pe → ∀ k : Nat, k < 5 → tb M (R0 + (z * 5 + k)) j b = decide (e z = k) := by
    intro z z0 z1 k hk
    rw [h.1 (z * 5 + k) (by omega) (by omega), show (z * 5 + k) / 5 = z by omega, show (z * 5 + (k : Int)) % 5 = k by omega]
  rw [orK_cg (g := fun k => decide (e x = k) && decide (e y = k)) 5 (fun k q => by
    show (tb M (R0 + (x * 5 + k)) j b && tb M (R0 + (y * 5 + k)) j b) = _
    rw [hk x x0 x1 k q, hk y y0 y1 k q])]
  have hx := h.2.2.2.2 x x0 x1
  have hy := h.2.2.2.2 y y0 y1
  rw [Bool.eq_iff_iff, orK_iff, decide_eq_true_iff]
  constructor
  · rintro ⟨k, -, a⟩
    rw [Bool.and_eq_true, decide_eq_true_iff, decide_eq_true_iff] at a
    rw [a.1, a.2]
  · intro a
    refine ⟨(e x).toNat, by omega, ?_⟩
    rw [Bool.and_eq_true, decide_eq_true_iff, decide_eq_true_iff]
    omega
theorem cnt_b2 {e : Ev} (h0 : 0 ≤ e 13) (h7 : e 13 ≤ 7) (k : Int) : 0 ≤ cnt e k ∧ cnt e k ≤ 7 := by
  have h1 := cnK_b e k (e 13).toNat
  unfold cnt
  omega
theorem pw_lo (p : Int) : ∀ t : Nat, t < 8 → p / pw t % 2 = p % 256 / pw t % 2
  | 0, _ => by rw [show pw ((0 : Nat) : Int) = 1 from rfl]; omega
  | 1, _ => by rw [show pw ((1 : Nat) : Int) = 2 from rfl]; omega
  | 2, _ => by rw [show pw ((2 : Nat) : Int) = 4 from rfl]; omega
  | 3, _ => by rw [show pw ((3 : Nat) : Int) = 8 from rfl]; omega
  | 4, _ => by rw [show pw ((4 : Nat) : Int) = 16 from rfl]; omega
  | 5, _ => by rw [show pw ((5 : Nat) : Int) = 32 from rfl]; omega
  | 6, _ => by rw [show pw ((6 : Nat) : Int) = 64 from rfl]; omega
  | 7, _ => by rw [show pw ((7 : Nat) : Int) = 128 from rfl]; omega
  | n + 8, h => absurd h (by omega)
/-- how many are of a KIND: one of the counts in c's bits -/
theorem mn_ok {M : Mm} {R0 ta pe j k c : Int} {b : Nat} {e : Ev} (h : RSb M R0 ta pe j b e) (h0 : 0 ≤ e 13) (h7 : e 13 ≤ 7) (k0 : 0 ≤ k) (k4 : k ≤ 4) : orK (fun t => decide (c / pw t % 2 = 1) && tb M (R0 + (48 + 8 * k + t)) j b) 8 = decide (c / pw (cnt e k) % 2 = 1) := by
  rw [orK_cg (g := fun t => decide (c / pw t % 2 = 1) && decide (cnt e k = t)) 8 (fun t q => by
    show (decide (c / pw t % 2 = 1) && tb M (R0 + (48 + 8 * k + t)) j b) = _
    rw [h.2.2.2.1 k t k0 k4 (by omega) (by omega)])]
  have hb := cnt_b2 h0 h7 k
  rw [Bool.eq_iff_iff, orK_iff, decide_eq_true_iff]
  constructor
  · rintro ⟨t, -, a⟩
    rw [Bool.and_eq_true, decide_eq_true_iff, decide_eq_true_iff] at a
    rw [a.2]
    exact a.1
  · intro a
    refine ⟨(cnt e k).toNat, by omega, ?_⟩
    rw [Bool.and_eq_true, decide_eq_true_iff, decide_eq_true_iff, show (((cnt e k).toNat : Nat) : Int) = cnt e k by omega]
    exact ⟨a, rfl⟩
theorem mn_ok2 {M : Mm} {R0 ta pe j p : Int} {b : Nat} {e : Ev} (h : RSb M R0 ta pe j b e) (h0 : 0 ≤ e 13) (h7 : e 13 ≤ 7) (k0 : 0 ≤ p) (k4 : p ≤ 1279) : orK (fun t => decide (p / pw t % 2 = 1) && tb M (R0 + (48 + 8 * (p / 256) + t)) j b) 8 = decide (p % 256 / pw (cnt e (p / 256)) % 2 = 1) := by
  rw [orK_cg (g := fun t => decide (p % 256 / pw t % 2 = 1) && tb M (R0 + (48 + 8 * (p / 256) + t)) j b) 8 (fun t q => by
    show (decide (p / pw t % 2 = 1) && _) = (decide (p % 256 / pw t % 2 = 1) && _)
    rw [pw_lo p t q])]
  exact mn_ok h h0 h7 (by omega) (by omega)
/-- who could say what is so there -/
theorem sy_ok {M : Mm} {R0 ta pe j p : Int} {b : Nat} {e : Ev} {s : Bool} (h : RSb M R0 ta pe j b e) (p0 : 0 ≤ p) (p1 : p < pe) (p6 : p ≤ 6) : (tb M (R0 + (p * 5 + 4)) j b || (tb M (R0 + 118) j b ^^ s ^^ tb M (R0 + (88 + 2 * p + M ta p)) j b)) = sayv (e (20 + p)) s := by
  have h1 := h.2.2.2.2 p p0 p1
  rw [h.1 (p * 5 + 4) (by omega) (by omega), show (p * 5 + 4) / 5 = p by omega, show (p * 5 + 4) % 5 = (4 : Int) by omega, h.2.2.1 118 (by decide) (by decide)]
  have e18 : rwv e 118 = true := by
    unfold rwv
    rw [if_neg (by decide), if_neg (by decide), if_neg (by decide), if_neg (by decide), if_neg (by decide)]
    rfl
  rw [e18]
  unfold sayv
  by_cases q : e p = 4
  · rw [decide_eq_true q, if_pos (h1.2.2.1.mpr q), Bool.true_or]
  · have h2 : e (20 + p) ≠ 2 := fun x => q (h1.2.2.1.mp x)
    rw [decide_eq_false q, if_neg h2, h1.2.2.2.2.2 q, Bool.false_or]
    by_cases q1 : e (20 + p) = 1
    · rw [if_pos q1, decide_eq_false (by omega)]
      cases s <;> rfl
    · rw [if_neg q1, decide_eq_true (by omega)]
      cases s <;> rfl
/-- a stack of words, at one of 64 -/
def SW (u : Int → Int) (b : Nat) : List Bool → Prop
  | [] => True
  | x :: st => Nat.testBit (u st.length).toNat b = x ∧ SW u b st
theorem SW_cg {u v : Int → Int} {b : Nat} : ∀ st : List Bool, (∀ k : Nat, k < st.length → v k = u k) → SW u b st → SW v b st := by
  intro st
  induction st with
  | nil => intro _ _; trivial
  | cons x st ih =>
    intro h hs
    have hl : (x :: st).length = st.length + 1 := rfl
    exact ⟨by rw [h st.length (by omega)]; exact hs.1, ih (fun k hk => h k (by omega)) hs.2⟩
theorem SW_push {u v : Int → Int} {b : Nat} {st : List Bool} {m : Int} {x : Bool} {w : Nat} (h : SW u b st) (hm : (st.length : Int) = m) (hv : ∀ k, k ≠ m → v k = u k) (hx : v m = (w : Int)) (e : Nat.testBit w b = x) : SW v b (x :: st) := by
  refine ⟨?_, SW_cg st (fun k hk => hv k (by omega)) h⟩
  rw [hm, hx]
  exact e
theorem SW_hd {u : Int → Int} {b : Nat} {st : List Bool} {m : Int} (h : SW u b st) (hm : (st.length : Int) = m) (h1 : 1 ≤ m) : ∃ x s2, st = x :: s2 ∧ Nat.testBit (u (m - 1)).toNat b = x ∧ SW u b s2 ∧ (s2.length : Int) = m - 1 := by
  cases st with
  | nil => have : (([] : List Bool).length : Int) = 0 := rfl; omega
  | cons x s2 =>
    have hl : (x :: s2).length = s2.length + 1 := rfl
    refine ⟨x, s2, rfl, ?_, h.2, by omega⟩
    rw [show m - 1 = (s2.length : Int) by omega]
    exact h.1
/-- a run of steps -/
def runF (F : Int → List Bool → List Bool) : List Int → List Bool → List Bool
  | [], st => st
  | x :: l, st => runF F l (F x st)
theorem runF_app (F : Int → List Bool → List Bool) : ∀ (l l2 : List Int) (st : List Bool), runF F (l ++ l2) st = runF F l2 (runF F l st) := by
  intro l
  induction l with
  | nil => intro l2 st; rfl
  | cons x l ih => intro l2 st; exact ih l2 _
theorem runF_cg {F G : Int → List Bool → List Bool} : ∀ (l : List Int) (st : List Bool), (∀ x ∈ l, ∀ st, F x st = G x st) → runF F l st = runF G l st := by
  intro l
  induction l with
  | nil => intro st _; rfl
  | cons x l ih =>
    intro st h
    show runF F l (F x st) = runF G l (G x st)
    rw [h x (List.mem_cons_self ..) st]
    exact ih _ (fun y hy st => h y (List.mem_cons_of_mem _ hy) st)
theorem runF_C (e : Ev) : ∀ (l : List Int) (st : List Bool), runF (stC e) l st = runC e l st := by
  intro l
  induction l with
  | nil => intro st; rfl
  | cons x l ih => intro st; exact ih _
/-- at truth's loop: behind i steps, the stack m high -/
def TWI (F : Int → List Bool → List Bool) (b : Nat) (C : List Int) (u : Int → Int) (i m : Int) : Prop := SW u b (runF F (C.take i.toNat) []) ∧ ((runF F (C.take i.toNat) []).length : Int) = m
theorem take_s {C : List Int} {i v : Int} (h0 : 0 ≤ i) (h : C[i.toNat]? = some v) : C.take (i + 1).toNat = C.take i.toNat ++ [v] := by
  rw [show (i + 1).toNat = i.toNat + 1 by omega, List.take_add_one, h]
  rfl
theorem CL_at {M : Mm} {c i v : Int} (h0 : 0 ≤ i) (h1 : i < M c 1) (e : M (c + 1) i = v) : (CL M c)[i.toNat]? = some v := by
  unfold CL
  rw [List.getElem?_map, List.getElem?_range (by omega)]
  show some (M (c + 1) (i.toNat : Nat)) = some v
  rw [show ((i.toNat : Nat) : Int) = i by omega, e]
theorem TWI_0 (F : Int → List Bool → List Bool) (b : Nat) (C : List Int) (u : Int → Int) : TWI F b C u 0 0 := ⟨trivial, rfl⟩
theorem TWI_st {F : Int → List Bool → List Bool} {b : Nat} {C : List Int} {u u2 : Int → Int} {i m m2 v : Int} (h : TWI F b C u i m) (h0 : 0 ≤ i) (hv : C[i.toNat]? = some v) (h2 : ∀ st : List Bool, SW u b st → (st.length : Int) = m → SW u2 b (F v st) ∧ ((F v st).length : Int) = m2) : TWI F b C u2 (i + 1) m2 := by
  unfold TWI
  rw [take_s h0 hv, runF_app]
  exact h2 _ h.1 h.2
/-- the height alone -/
def HTI (C : List Int) (i m : Int) : Prop := okH 30 C 0 ∧ m = enH (C.take i.toNat) 0
theorem okH_at {C : List Int} {i v m : Int} (h : HTI C i m) (h0 : 0 ≤ i) (hv : C[i.toNat]? = some v) : (v % 8 = 2 ∨ v % 8 = 3 → 2 ≤ m) ∧ (v % 8 = 1 ∨ v % 8 = 4 → 1 ≤ m) ∧ (v % 8 = 0 ∨ v % 8 = 5 ∨ v % 8 = 6 → m ≤ 29) ∧ v % 8 ≠ 7 ∧ m + dlt v = enH (C.take (i + 1).toNat) 0 := by
  obtain ⟨h1, h2⟩ := h
  have h3 : C = C.take i.toNat ++ C.drop i.toNat := (List.take_append_drop _ _).symm
  have hl : i.toNat < C.length := by
    rcases Nat.lt_or_ge i.toNat C.length with q | q
    · exact q
    · rw [List.getElem?_eq_none q] at hv; cases hv
  have h4 : C.drop i.toNat = v :: C.drop (i.toNat + 1) := by
    rw [List.drop_eq_getElem_cons hl]
    congr 1
    rw [List.getElem?_eq_getElem hl] at hv
    exact Option.some.inj hv
  rw [h3, okH_app, h4] at h1
  obtain ⟨-, a, b, -⟩ := h1
  rw [← h2] at a b
  have hn : nee v = if v % 8 = 0 ∨ v % 8 = 5 ∨ v % 8 = 6 then 0 else if v % 8 = 1 ∨ v % 8 = 4 then 1 else if v % 8 = 7 then 100 else 2 := rfl
  have hd : dlt v = if v % 8 = 0 ∨ v % 8 = 5 ∨ v % 8 = 6 then 1 else if v % 8 = 1 ∨ v % 8 = 4 then 0 else -1 := rfl
  refine ⟨fun q => ?_, fun q => ?_, fun q => ?_, fun q => ?_, ?_⟩
  · rw [hn, if_neg (by omega), if_neg (by omega), if_neg (by omega)] at a; exact a
  · rw [hn, if_neg (by omega), if_pos q] at a; exact a
  · rw [hd, if_pos q] at b; omega
  · rw [hn, if_neg (by omega), if_neg (by omega), if_pos q] at a
    rw [hd, if_neg (by omega), if_neg (by omega)] at b
    omega
  · rw [take_s h0 hv, enH_app, ← h2]
    rfl
theorem HTI_0 {C : List Int} (h : okH 30 C 0) : HTI C 0 0 := ⟨h, rfl⟩
theorem HTI_st {C : List Int} {i v m m2 : Int} (h : HTI C i m) (h0 : 0 ≤ i) (hv : C[i.toNat]? = some v) (hm : m2 = m + dlt v) : HTI C (i + 1) m2 := ⟨h.1, by rw [hm]; exact (okH_at h h0 hv).2.2.2.2⟩
theorem dlt_1 {v : Int} (h : v % 8 = 0 ∨ v % 8 = 5 ∨ v % 8 = 6) : dlt v = 1 := if_pos h
theorem dlt_0 {v : Int} (h : v % 8 = 1 ∨ v % 8 = 4) : dlt v = 0 := (if_neg (by omega)).trans (if_pos h)
theorem dlt_m {v : Int} (h : v % 8 = 2 ∨ v % 8 = 3) : dlt v = -1 := (if_neg (by omega)).trans (if_neg (by omega))
section TWs
variable {F : Int → List Bool → List Bool} {b : Nat} {u u2 : Int → Int} {st : List Bool} {m v : Int} {w w1 w2 : Nat}
theorem T_psh {x : Bool} (hs : SW u b st) (hm : (st.length : Int) = m) (hv : F v st = x :: st) (hP : ∀ k, k ≠ m → u2 k = u k) (hx : u2 m = (w : Int)) (e9 : Nat.testBit w b = x) : SW u2 b (F v st) ∧ ((F v st).length : Int) = m + 1 := by
  rw [hv]
  refine ⟨SW_push hs hm hP hx e9, ?_⟩
  rw [List.length_cons]
  omega
theorem T_un {f : Bool → Bool} (hs : SW u b st) (hm : (st.length : Int) = m) (h1 : 1 ≤ m) (hv : ∀ x s2, F v (x :: s2) = f x :: s2) (hP : ∀ k, k ≠ m - 1 → u2 k = u k) (hx : u2 (m - 1) = (w : Int)) (hl : (u (m - 1)).toNat = w1) (e9 : ∀ x, Nat.testBit w1 b = x → Nat.testBit w b = f x) : SW u2 b (F v st) ∧ ((F v st).length : Int) = m := by
  obtain ⟨x, s2, rfl, h3, h4, h5⟩ := SW_hd hs hm h1
  rw [hv]
  rw [hl] at h3
  refine ⟨SW_push h4 h5 hP hx (e9 x h3), ?_⟩
  rw [List.length_cons]
  omega
theorem T_bin {f : Bool → Bool → Bool} (hs : SW u b st) (hm : (st.length : Int) = m) (h1 : 2 ≤ m) (hv : ∀ x y s2, F v (y :: x :: s2) = f x y :: s2) (hP : ∀ k, k ≠ m - 1 - 1 → u2 k = u k) (hx : u2 (m - 1 - 1) = (w : Int)) (hl1 : (u (m - 1 - 1)).toNat = w1) (hl2 : (u (m - 1)).toNat = w2) (e9 : Nat.testBit w b = f (Nat.testBit w1 b) (Nat.testBit w2 b)) : SW u2 b (F v st) ∧ ((F v st).length : Int) = m - 1 := by
  obtain ⟨y, s2, rfl, h3, h4, h5⟩ := SW_hd hs hm (by omega)
  obtain ⟨x, s3, rfl, h6, h7, h8⟩ := SW_hd h4 h5 (by omega)
  rw [hv]
  rw [hl2] at h3
  rw [hl1] at h6
  refine ⟨SW_push h7 h8 hP hx ?_, ?_⟩
  · rw [e9, ← h3, ← h6]
  · rw [List.length_cons]
    omega
theorem TWI_x {C : List Int} {i : Int} {x : Bool} (h : TWI F b C u i m) (hi : C.length ≤ i.toNat) (hx : (u 0).toNat = w) (hr : runF F C [] = [x]) : Nat.testBit w b = x := by
  obtain ⟨h1, -⟩ := h
  rw [List.take_of_length_le hi, hr] at h1
  have h2 : Nat.testBit (u (([] : List Bool).length : Nat)).toNat b = x := h1.1
  have h3 : (u (([] : List Bool).length : Nat)).toNat = w := hx
  rw [h3] at h2
  exact h2
end TWs
/-- a row that a step names -/
theorem RS_row {M : Mm} {R0 ta pe j v : Int} {b : Nat} {e : Ev} (h : RSb M R0 ta pe j b e) (ho : okx pe v) (hv : v % 8 = 0) : tb M (R0 + v / 8) j b = rwv e (v / 8) := by
  obtain ⟨q0, q⟩ := ho.1 hv
  rcases q with ⟨q1, q2⟩ | ⟨q1, q2⟩ | ⟨q1, q2⟩
  · rw [h.1 (v / 8) q0 (by omega)]
    exact (if_pos q1).symm
  · exact h.2.1 (v / 8) q1 q2
  · exact h.2.2.1 (v / 8) q1 q2
theorem tb_full {b : Nat} (hb : b < 64) : Nat.testBit 18446744073709551615 b = true := by
  rw [show (18446744073709551615 : Nat) = 2 ^ 64 - 1 by decide, Nat.testBit_two_pow_sub_one]
  exact decide_eq_true hb
theorem okH_en {K : Int} : ∀ (l : List Int) (h : Int), okH K l h → h ≤ K → enH l h ≤ K := by
  intro l
  induction l with
  | nil => intro h _ q; exact q
  | cons x l ih => intro h q _; exact ih _ q.2.2 q.2.1
theorem HTI_le {C : List Int} {i m : Int} (h : HTI C i m) : m ≤ 30 := by
  obtain ⟨h1, h2⟩ := h
  rw [← List.take_append_drop i.toNat C, okH_app] at h1
  rw [h2]
  exact okH_en _ _ h1.1 (by decide)
section STC
variable {e : Ev} {v : Int} {st : List Bool}
theorem stC_1 (h : v % 8 = 1) : stC e v st = (!hd0 st) :: st.tail := (if_neg (by omega)).trans ((if_neg (by omega)).trans ((if_neg (by omega)).trans (if_pos h)))
theorem stC_4 (h : v % 8 = 4) : stC e v st = sayv (e (20 + v / 8)) (hd0 st) :: st.tail := (if_neg (by omega)).trans ((if_neg (by omega)).trans ((if_neg (by omega)).trans ((if_neg (by omega)).trans (if_pos h))))
theorem stC_2 (h : v % 8 = 2) : stC e v st = (hd0 st.tail && hd0 st) :: st.tail.tail := (if_neg (by omega)).trans ((if_neg (by omega)).trans ((if_neg (by omega)).trans ((if_neg (by omega)).trans ((if_neg (by omega)).trans (if_pos h)))))
theorem stC_3 (h : v % 8 = 3) : stC e v st = (hd0 st.tail || hd0 st) :: st.tail.tail := (if_neg (by omega)).trans ((if_neg (by omega)).trans ((if_neg (by omega)).trans ((if_neg (by omega)).trans ((if_neg (by omega)).trans (if_neg (by omega))))))
end STC
/-- the class's step at the b-th of the j-th 64 WORLDS -/
def stV (M : Mm) (R0 ta j : Int) (b : Nat) (x : Int) (st : List Bool) : List Bool :=
  if x % 8 = 0 then tb M (R0 + x / 8) j b :: st
  else if x % 8 = 5 then orK (fun k => tb M (R0 + (x / 8 / 8 * 5 + k)) j b && tb M (R0 + (x / 8 % 8 * 5 + k)) j b) 5 :: st
  else if x % 8 = 6 then orK (fun t => decide (x / 8 / pw t % 2 = 1) && tb M (R0 + (48 + 8 * (x / 8 / 256) + t)) j b) 8 :: st
  else if x % 8 = 1 then (!hd0 st) :: st.tail
  else if x % 8 = 4 then (tb M (R0 + (x / 8 * 5 + 4)) j b || (tb M (R0 + 118) j b ^^ hd0 st ^^ tb M (R0 + (88 + 2 * (x / 8) + M ta (x / 8))) j b)) :: st.tail
  else if x % 8 = 2 then (hd0 st.tail && hd0 st) :: st.tail.tail
  else (hd0 st.tail || hd0 st) :: st.tail.tail
section STV
variable {M M2 : Mm} {R0 ta j v : Int} {b : Nat} {st : List Bool}
theorem stV_0 (h : v % 8 = 0) : stV M R0 ta j b v st = tb M (R0 + v / 8) j b :: st := if_pos h
theorem stV_5 (h : v % 8 = 5) : stV M R0 ta j b v st = orK (fun k => tb M (R0 + (v / 8 / 8 * 5 + k)) j b && tb M (R0 + (v / 8 % 8 * 5 + k)) j b) 5 :: st := (if_neg (by omega)).trans (if_pos h)
theorem stV_6 (h : v % 8 = 6) : stV M R0 ta j b v st = orK (fun t => decide (v / 8 / pw t % 2 = 1) && tb M (R0 + (48 + 8 * (v / 8 / 256) + t)) j b) 8 :: st := (if_neg (by omega)).trans ((if_neg (by omega)).trans (if_pos h))
theorem stV_1 (h : v % 8 = 1) : stV M R0 ta j b v st = (!hd0 st) :: st.tail := (if_neg (by omega)).trans ((if_neg (by omega)).trans ((if_neg (by omega)).trans (if_pos h)))
theorem stV_4 (h : v % 8 = 4) : stV M R0 ta j b v st = (tb M (R0 + (v / 8 * 5 + 4)) j b || (tb M (R0 + 118) j b ^^ hd0 st ^^ tb M (R0 + (88 + 2 * (v / 8) + M ta (v / 8))) j b)) :: st.tail := (if_neg (by omega)).trans ((if_neg (by omega)).trans ((if_neg (by omega)).trans ((if_neg (by omega)).trans (if_pos h))))
theorem stV_2 (h : v % 8 = 2) : stV M R0 ta j b v st = (hd0 st.tail && hd0 st) :: st.tail.tail := (if_neg (by omega)).trans ((if_neg (by omega)).trans ((if_neg (by omega)).trans ((if_neg (by omega)).trans ((if_neg (by omega)).trans (if_pos h)))))
theorem stV_3 (h : v % 8 = 3) : stV M R0 ta j b v st = (hd0 st.tail || hd0 st) :: st.tail.tail := (if_neg (by omega)).trans ((if_neg (by omega)).trans ((if_neg (by omega)).trans ((if_neg (by omega)).trans ((if_neg (by omega)).trans (if_neg (by omega))))))
/-- a word read -/
theorem tb_rd {a r : Int} {n : Nat} (e : (M2 a j).toNat = n) (ha : R0 + r = a) (hf : M2 (R0 + r) j = M (R0 + r) j) (b : Nat) : Nat.testBit n b = tb M (R0 + r) j b := by
  unfold tb
  rw [← hf, ha, e]
theorem tb_eq {a : Int} (h : M2 a j = M a j) (b : Nat) : tb M2 a j b = tb M a j b := by
  unfold tb
  rw [h]
theorem al_cg {x y : Int} (h : ∀ r : Int, 0 ≤ r → r ≤ 118 → M2 (R0 + r) j = M (R0 + r) j) (x0 : 0 ≤ x) (x7 : x ≤ 7) (y0 : 0 ≤ y) (y7 : y ≤ 7) : orK (fun k => tb M2 (R0 + (x * 5 + k)) j b && tb M2 (R0 + (y * 5 + k)) j b) 5 = orK (fun k => tb M (R0 + (x * 5 + k)) j b && tb M (R0 + (y * 5 + k)) j b) 5 :=
  orK_cg 5 fun k hk => by
    show (tb M2 (R0 + (x * 5 + k)) j b && tb M2 (R0 + (y * 5 + k)) j b) = (tb M (R0 + (x * 5 + k)) j b && tb M (R0 + (y * 5 + k)) j b)
    rw [tb_eq (h (x * 5 + k) (by omega) (by omega)), tb_eq (h (y * 5 + k) (by omega) (by omega))]
theorem mn_cg {p : Int} (h : ∀ r : Int, 0 ≤ r → r ≤ 118 → M2 (R0 + r) j = M (R0 + r) j) (x0 : 0 ≤ p) (x7 : p ≤ 1279) : orK (fun t => decide (p / pw t % 2 = 1) && tb M2 (R0 + (48 + 8 * (p / 256) + t)) j b) 8 = orK (fun t => decide (p / pw t % 2 = 1) && tb M (R0 + (48 + 8 * (p / 256) + t)) j b) 8 :=
  orK_cg 8 fun k hk => by
    show (_ && tb M2 (R0 + (48 + 8 * (p / 256) + k)) j b) = (_ && tb M (R0 + (48 + 8 * (p / 256) + k)) j b)
    rw [tb_eq (h (48 + 8 * (p / 256) + k) (by omega) (by omega))]
theorem sy_cg {p : Int} {x : Bool} (h : ∀ r : Int, 0 ≤ r → r ≤ 118 → M2 (R0 + r) j = M (R0 + r) j) (ht : M2 ta p = M ta p) (x0 : 0 ≤ p) (x6 : p ≤ 6) (hb : 0 ≤ M ta p ∧ M ta p ≤ 1) : (tb M2 (R0 + (p * 5 + 4)) j b || (tb M2 (R0 + 118) j b ^^ x ^^ tb M2 (R0 + (88 + 2 * p + M2 ta p)) j b)) = (tb M (R0 + (p * 5 + 4)) j b || (tb M (R0 + 118) j b ^^ x ^^ tb M (R0 + (88 + 2 * p + M ta p)) j b)) := by
  rw [ht, tb_eq (h (p * 5 + 4) (by omega) (by omega)), tb_eq (h 118 (by omega) (by omega)), tb_eq (h (88 + 2 * p + M ta p) (by omega) (by omega))]
theorem stV_cg (hs : stepok v) (h1 : ∀ r : Int, 0 ≤ r → r ≤ 118 → M2 (R0 + r) j = M (R0 + r) j) (h2 : ∀ i : Int, 0 ≤ i → i < 7 → M2 ta i = M ta i) (h3 : ∀ i : Int, 0 ≤ i → i < 7 → 0 ≤ M ta i ∧ M ta i ≤ 1) : stV M2 R0 ta j b v st = stV M R0 ta j b v st := by
  obtain ⟨q0, q1, q2, q3, q4, q5, q6⟩ := hs
  by_cases a0 : v % 8 = 0
  · rw [stV_0 a0, stV_0 a0, tb_eq (h1 (v / 8) (by omega) (by omega))]
  by_cases a5 : v % 8 = 5
  · rw [stV_5 a5, stV_5 a5, al_cg h1 (by omega) (by omega) (by omega) (by omega)]
  by_cases a6 : v % 8 = 6
  · rw [stV_6 a6, stV_6 a6, mn_cg h1 (by omega) (by omega)]
  by_cases a1 : v % 8 = 1
  · rw [stV_1 a1, stV_1 a1]
  by_cases a4 : v % 8 = 4
  · have h5 := h3 (v / 8) (by omega) (by omega)
    rw [stV_4 a4, stV_4 a4, h2 (v / 8) (by omega) (by omega), tb_eq (h1 (v / 8 * 5 + 4) (by omega) (by omega)), tb_eq (h1 118 (by omega) (by omega)), tb_eq (h1 (88 + 2 * (v / 8) + M ta (v / 8)) (by omega) (by omega))]
  by_cases a2 : v % 8 = 2
  · rw [stV_2 a2, stV_2 a2]
  · rw [stV_3 (by omega), stV_3 (by omega)]
theorem stV_RS {pe : Int} {e : Ev} (h : RSb M R0 ta pe j b e) (h0 : 0 ≤ e 13) (h7 : e 13 ≤ 7) (hp : pe ≤ 7) (ho : okx pe v) (hs : stepok v) : stV M R0 ta j b v st = stC e v st := by
  obtain ⟨q0, q1, q2, q3, q4, q5, q6⟩ := hs
  by_cases a0 : v % 8 = 0
  · rw [stV_0 a0, stC_0 a0, RS_row h ho a0]
  by_cases a5 : v % 8 = 5
  · have h5 := ho.2.2.1 a5
    rw [stV_5 a5, stC_5 a5, al_ok h (by omega) (by omega) (by omega) (by omega)]
  by_cases a6 : v % 8 = 6
  · rw [stV_6 a6, stC_6 a6, mn_ok2 h h0 h7 (by omega) (by omega)]
  by_cases a1 : v % 8 = 1
  · rw [stV_1 a1, stC_1 a1]
  by_cases a4 : v % 8 = 4
  · have h5 := ho.2.1 a4
    rw [stV_4 a4, stC_4 a4, sy_ok h (by omega) (by omega) (by omega)]
  by_cases a2 : v % 8 = 2
  · rw [stV_2 a2, stC_2 a2]
  · rw [stV_3 (by omega), stC_3 (by omega)]
theorem run_RS {pe : Int} {e : Ev} (h : RSb M R0 ta pe j b e) (h0 : 0 ≤ e 13) (h7 : e 13 ≤ 7) (hp : pe ≤ 7) {C : List Int} (ho : ∀ x ∈ C, okx pe x) (hs : ∀ x ∈ C, stepok x) : runF (stV M R0 ta j b) C st = runC e C st := by
  rw [← runF_C]
  exact runF_cg C st fun x hx st => stV_RS h h0 h7 hp (ho x hx) (hs x hx)
theorem run_cg {C : List Int} (hs : ∀ x ∈ C, stepok x) (h1 : ∀ r : Int, 0 ≤ r → r ≤ 118 → M2 (R0 + r) j = M (R0 + r) j) (h2 : ∀ i : Int, 0 ≤ i → i < 7 → M2 ta i = M ta i) (h3 : ∀ i : Int, 0 ≤ i → i < 7 → 0 ≤ M ta i ∧ M ta i ≤ 1) : runF (stV M2 R0 ta j b) C st = runF (stV M R0 ta j b) C st := runF_cg C st fun x hx st => stV_cg (hs x hx) h1 h2 h3
/-- the stack below stays as it is -/
theorem runF_sh {K : Int} : ∀ (C : List Int) (h : Int) (p : List Bool), okH K C h → (p.length : Int) = h → ∃ q : List Bool, (∀ st, runF (stV M R0 ta j b) C (p ++ st) = q ++ st) ∧ (q.length : Int) = enH C h := by
  intro C
  induction C with
  | nil => intro h p _ hl; exact ⟨p, fun _ => rfl, hl⟩
  | cons x C ih =>
    intro h p hk hl
    obtain ⟨k1, k2, k3⟩ := hk
    have hn : nee x = if x % 8 = 0 ∨ x % 8 = 5 ∨ x % 8 = 6 then 0 else if x % 8 = 1 ∨ x % 8 = 4 then 1 else if x % 8 = 7 then 100 else 2 := rfl
    have hd : dlt x = if x % 8 = 0 ∨ x % 8 = 5 ∨ x % 8 = 6 then 1 else if x % 8 = 1 ∨ x % 8 = 4 then 0 else -1 := rfl
    have key : ∃ q1 : List Bool, (∀ st, stV M R0 ta j b x (p ++ st) = q1 ++ st) ∧ (q1.length : Int) = h + dlt x := by
      by_cases a : x % 8 = 0 ∨ x % 8 = 5 ∨ x % 8 = 6
      · rw [if_pos a] at hd
        rcases a with a | a | a
        · exact ⟨tb M (R0 + x / 8) j b :: p, fun st => stV_0 a, by rw [List.length_cons]; omega⟩
        · exact ⟨orK (fun k => tb M (R0 + (x / 8 / 8 * 5 + k)) j b && tb M (R0 + (x / 8 % 8 * 5 + k)) j b) 5 :: p, fun st => stV_5 a, by rw [List.length_cons]; omega⟩
        · exact ⟨orK (fun t => decide (x / 8 / pw t % 2 = 1) && tb M (R0 + (48 + 8 * (x / 8 / 256) + t)) j b) 8 :: p, fun st => stV_6 a, by rw [List.length_cons]; omega⟩
      · rw [if_neg a] at hd hn
        by_cases a1 : x % 8 = 1 ∨ x % 8 = 4
        · rw [if_pos a1] at hd hn
          cases p with
          | nil => exfalso; have : (([] : List Bool).length : Int) = 0 := rfl; omega
          | cons y p =>
            rw [List.length_cons] at hl
            rcases a1 with a1 | a1
            · exact ⟨(!y) :: p, fun st => stV_1 a1, by rw [List.length_cons]; omega⟩
            · exact ⟨(tb M (R0 + (x / 8 * 5 + 4)) j b || (tb M (R0 + 118) j b ^^ y ^^ tb M (R0 + (88 + 2 * (x / 8) + M ta (x / 8))) j b)) :: p, fun st => stV_4 a1, by rw [List.length_cons]; omega⟩
        · rw [if_neg a1] at hd hn
          by_cases a7 : x % 8 = 7
          · rw [if_pos a7] at hn
            cases p with
            | nil => exfalso; have : (([] : List Bool).length : Int) = 0 := rfl; omega
            | cons y p =>
              cases p with
              | nil => exfalso; have : ([y].length : Int) = 1 := rfl; omega
              | cons z p =>
                rw [List.length_cons, List.length_cons] at hl
                refine ⟨(z || y) :: p, fun st => ?_, by rw [List.length_cons]; omega⟩
                unfold stV
                rw [if_neg (by omega), if_neg (by omega), if_neg (by omega), if_neg (by omega), if_neg (by omega), if_neg (by omega)]
                rfl
          · rw [if_neg a7] at hn
            cases p with
            | nil => exfalso; have : (([] : List Bool).length : Int) = 0 := rfl; omega
            | cons y p =>
              cases p with
              | nil => exfalso; have : ([y].length : Int) = 1 := rfl; omega
              | cons z p =>
                rw [List.length_cons, List.length_cons] at hl
                by_cases a2 : x % 8 = 2
                · exact ⟨(z && y) :: p, fun st => stV_2 a2, by rw [List.length_cons]; omega⟩
                · exact ⟨(z || y) :: p, fun st => stV_3 (by omega), by rw [List.length_cons]; omega⟩
    obtain ⟨q1, e1, l1⟩ := key
    obtain ⟨q, e2, l2⟩ := ih (h + dlt x) q1 k3 l1
    exact ⟨q, fun st => by show runF _ C (stV M R0 ta j b x (p ++ st)) = _; rw [e1]; exact e2 st, l2⟩
theorem runF_1 {C : List Int} {g : Int} (h : okH g C 0) (he : enH C 0 = 1) : ∃ y : Bool, ∀ st, runF (stV M R0 ta j b) C st = y :: st := by
  obtain ⟨q, h1, h2⟩ := runF_sh (M := M) (R0 := R0) (ta := ta) (j := j) (b := b) C 0 [] h rfl
  rw [he] at h2
  cases q with
  | nil => exfalso; have : (([] : List Bool).length : Int) = 0 := rfl; omega
  | cons y q =>
    cases q with
    | nil => exact ⟨y, h1⟩
    | cons z q => exfalso; rw [List.length_cons, List.length_cons] at h2; omega
end STV
theorem CL_st {M : Mm} (hP : Pw M) {c : Int} (hc : isC c) (hl : M c 1 ≤ 256) : ∀ x ∈ CL M c, stepok x := by
  intro x hx
  unfold CL at hx
  obtain ⟨k, hk, rfl⟩ := List.mem_map.mp hx
  have := List.mem_range.mp hk
  exact exC hP hc (by omega) (by omega)
