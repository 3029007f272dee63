/-! ===== one picture for both parsers: the tokens of a text, and how an EXPR is read ===== -/
def tyF (c : Int) : Int := if 97 ≤ c ∧ c ≤ 122 then 1 else if 48 ≤ c ∧ c ≤ 57 then 2 else if c = 59 ∨ c = 40 ∨ c = 41 ∨ c = 60 ∨ c = 61 ∨ c = 62 then 3 else 4
theorem tyF_b (c : Int) : 1 ≤ tyF c ∧ tyF c ≤ 4 := by
  unfold tyF
  split
  · omega
  · split
    · omega
    · split <;> omega
theorem tyF_1 {c : Int} : tyF c = 1 ↔ 97 ≤ c ∧ c ≤ 122 := by
  unfold tyF
  split
  · omega
  · split
    · omega
    · split <;> omega
theorem tyF_2 {c : Int} : tyF c = 2 ↔ 48 ≤ c ∧ c ≤ 57 := by
  unfold tyF
  split
  · omega
  · split
    · omega
    · split <;> omega
theorem tyF_3 {c : Int} : tyF c = 3 ↔ c = 59 ∨ c = 40 ∨ c = 41 ∨ c = 60 ∨ c = 61 ∨ c = 62 := by
  unfold tyF
  split
  · omega
  · split
    · omega
    · split <;> omega
theorem tyF_4 {c : Int} : tyF c = 4 ↔ ¬ (97 ≤ c ∧ c ≤ 122) ∧ ¬ (48 ≤ c ∧ c ≤ 57) ∧ ¬ (c = 59 ∨ c = 40 ∨ c = 41 ∨ c = 60 ∨ c = 61 ∨ c = 62) := by
  unfold tyF
  split
  · omega
  · split
    · omega
    · split <;> omega
def skN (T : Int → Int) : Nat → Int → Int
  | 0, p => p
  | k + 1, p => if T p = 32 ∨ T p = 10 then skN T k (p + 1) else p
/-- where the next token begins -/
def sk (T : Int → Int) (n p : Int) : Int := skN T (n - p).toNat p
theorem sk_b {T : Int → Int} {n p : Int} (h : p < n) (hb : T p = 32 ∨ T p = 10) : sk T n (p + 1) = sk T n p := by
  unfold sk
  rw [show (n - p).toNat = (n - (p + 1)).toNat + 1 by omega]
  exact (if_pos hb).symm
theorem sk_n {T : Int → Int} {n p : Int} (h : p < n) (hb : ¬ (T p = 32 ∨ T p = 10)) : sk T n p = p := by
  unfold sk
  rw [show (n - p).toNat = (n - (p + 1)).toNat + 1 by omega]
  exact if_neg hb
theorem sk_e {T : Int → Int} {n p : Int} (h : n ≤ p) : sk T n p = p := by
  unfold sk
  rw [show (n - p).toNat = 0 by omega]
  rfl
theorem skN_b (T : Int → Int) : ∀ (k : Nat) (p : Int), p ≤ skN T k p ∧ skN T k p ≤ p + k := by
  intro k
  induction k with
  | zero => intro p; exact ⟨Int.le_refl _, by show p ≤ p + ((0 : Nat) : Int); omega⟩
  | succ k ih =>
    intro p
    show p ≤ (if T p = 32 ∨ T p = 10 then skN T k (p + 1) else p) ∧ (if T p = 32 ∨ T p = 10 then skN T k (p + 1) else p) ≤ p + ((k + 1 : Nat) : Int)
    split
    · have := ih (p + 1)
      omega
    · omega
theorem sk_r {T : Int → Int} {n p : Int} (h : p ≤ n) : p ≤ sk T n p ∧ sk T n p ≤ n := by
  have := skN_b T (n - p).toNat p
  unfold sk
  omega
def enN (T : Int → Int) (c : Int) : Nat → Int → Int
  | 0, p => p
  | k + 1, p => if tyF (T p) = c then enN T c k (p + 1) else p
def en (T : Int → Int) (n c p : Int) : Int := enN T c (n - p).toNat p
theorem en_b {T : Int → Int} {n c p : Int} (h : p < n) (hb : tyF (T p) = c) : en T n c (p + 1) = en T n c p := by
  unfold en
  rw [show (n - p).toNat = (n - (p + 1)).toNat + 1 by omega]
  exact (if_pos hb).symm
theorem en_n {T : Int → Int} {n c p : Int} (h : p < n) (hb : tyF (T p) ≠ c) : en T n c p = p := by
  unfold en
  rw [show (n - p).toNat = (n - (p + 1)).toNat + 1 by omega]
  exact if_neg hb
theorem en_e {T : Int → Int} {n c p : Int} (h : n ≤ p) : en T n c p = p := by
  unfold en
  rw [show (n - p).toNat = 0 by omega]
  rfl
theorem enN_b (T : Int → Int) (c : Int) : ∀ (k : Nat) (p : Int), p ≤ enN T c k p ∧ enN T c k p ≤ p + k ∧ ∀ q, p ≤ q → q < enN T c k p → tyF (T q) = c := by
  intro k
  induction k with
  | zero => intro p; exact ⟨Int.le_refl _, by show p ≤ p + ((0 : Nat) : Int); omega, fun q h1 h2 => by have : q < p := h2; omega⟩
  | succ k ih =>
    intro p
    show p ≤ (if tyF (T p) = c then enN T c k (p + 1) else p) ∧ (if tyF (T p) = c then enN T c k (p + 1) else p) ≤ p + ((k + 1 : Nat) : Int) ∧ ∀ q, p ≤ q → q < (if tyF (T p) = c then enN T c k (p + 1) else p) → tyF (T q) = c
    split
    · rename_i hp
      have h := ih (p + 1)
      refine ⟨by omega, by omega, fun q h1 h2 => ?_⟩
      by_cases e : q = p
      · rw [e]; exact hp
      · exact h.2.2 q (by omega) h2
    · exact ⟨Int.le_refl _, by omega, fun q h1 h2 => by omega⟩
theorem en_r {T : Int → Int} {n c p : Int} (h : p ≤ n) : p ≤ en T n c p ∧ en T n c p ≤ n ∧ ∀ q, p ≤ q → q < en T n c p → tyF (T q) = c := by
  have h2 := enN_b T c (n - p).toNat p
  unfold en
  exact ⟨h2.1, by omega, h2.2.2⟩
/-- what a token is: 0 the text's end, 1 a word, 2 a number, 3 a sign, 4 none -/
def tt (T : Int → Int) (n s : Int) : Int := if s < n then tyF (T s) else 0
/-- where it ends -/
def ee (T : Int → Int) (n s : Int) : Int := if s < n then (if tyF (T s) = 1 ∨ tyF (T s) = 2 then en T n (tyF (T s)) (s + 1) else s + 1) else s
def nx (T : Int → Int) (n s : Int) : Int := sk T n (ee T n s)
theorem ee_r {T : Int → Int} {n s : Int} (h : s ≤ n) : s ≤ ee T n s ∧ ee T n s ≤ n ∧ (s < n → s < ee T n s) ∧ (tt T n s = 1 ∨ tt T n s = 2 → ∀ q, s ≤ q → q < ee T n s → tyF (T q) = tt T n s) := by
  unfold ee tt
  by_cases h1 : s < n
  · rw [if_pos h1, if_pos h1]
    by_cases h2 : tyF (T s) = 1 ∨ tyF (T s) = 2
    · rw [if_pos h2]
      have h3 := en_r (T := T) (n := n) (c := tyF (T s)) (p := s + 1) (by omega)
      refine ⟨by omega, h3.2.1, fun _ => by omega, fun _ q q1 q2 => ?_⟩
      by_cases e : q = s
      · rw [e]
      · exact h3.2.2 q (by omega) q2
    · rw [if_neg h2]
      exact ⟨by omega, by omega, fun _ => by omega, fun q => absurd q h2⟩
  · rw [if_neg h1, if_neg h1]
    exact ⟨Int.le_refl _, h, fun q => absurd q h1, fun q => by omega⟩
theorem nx_r {T : Int → Int} {n s : Int} (h : s ≤ n) : s ≤ nx T n s ∧ nx T n s ≤ n ∧ (s < n → s < nx T n s) := by
  have h1 := ee_r (T := T) h
  have h2 := sk_r (T := T) h1.2.1
  unfold nx
  exact ⟨by omega, h2.2, fun q => by have := h1.2.2.1 q; omega⟩
/-! words as numbers -/
def wc (T : Int → Int) (s : Int) : Nat → Int
  | 0 => 0
  | k + 1 => 32 * wc T s k + (T (s + k) - 96)
def vl (T : Int → Int) (s : Int) : Nat → Int
  | 0 => 0
  | k + 1 => 10 * vl T s k + (T (s + k) - 48)
theorem wc_nn {T : Int → Int} {s : Int} : ∀ k : Nat, (∀ i : Nat, i < k → 97 ≤ T (s + i)) → 0 ≤ wc T s k ∧ (0 < k → 1 ≤ wc T s k) := by
  intro k
  induction k with
  | zero => intro _; exact ⟨Int.le_refl _, fun h => absurd h (by decide)⟩
  | succ k ih =>
    intro h
    have h1 := ih (fun i hi => h i (by omega))
    have h2 := h k (by omega)
    show 0 ≤ 32 * wc T s k + (T (s + k) - 96) ∧ (0 < k + 1 → 1 ≤ 32 * wc T s k + (T (s + k) - 96))
    omega
/-- two words of one number are one word -/
theorem wc_inj {T U : Int → Int} {s t : Int} : ∀ k j : Nat, (∀ i : Nat, i < k → 97 ≤ T (s + i) ∧ T (s + i) ≤ 122) → (∀ i : Nat, i < j → 97 ≤ U (t + i) ∧ U (t + i) ≤ 122) → wc T s k = wc U t j → k = j ∧ ∀ i : Nat, i < k → T (s + i) = U (t + i) := by
  intro k
  induction k with
  | zero =>
    intro j _ hU h
    cases j with
    | zero => exact ⟨rfl, fun i hi => absurd hi (Nat.not_lt_zero _)⟩
    | succ j =>
      have h1 := (wc_nn (T := U) (s := t) (j + 1) (fun i hi => (hU i hi).1)).2 (by omega)
      have h2 : (0 : Int) = wc U t (j + 1) := h
      omega
  | succ k ih =>
    intro j hT hU h
    cases j with
    | zero =>
      have h1 := (wc_nn (T := T) (s := s) (k + 1) (fun i hi => (hT i hi).1)).2 (by omega)
      have h2 : wc T s (k + 1) = (0 : Int) := h
      omega
    | succ j =>
      have h2 : 32 * wc T s k + (T (s + k) - 96) = 32 * wc U t j + (U (t + j) - 96) := h
      have a1 := hT k (by omega)
      have a2 := hU j (by omega)
      have h3 : T (s + k) = U (t + j) ∧ wc T s k = wc U t j := by omega
      obtain ⟨e1, e2⟩ := ih j (fun i hi => hT i (by omega)) (fun i hi => hU i (by omega)) h3.2
      subst e1
      refine ⟨rfl, fun i hi => ?_⟩
      by_cases e : i = k
      · rw [e]; exact h3.1
      · exact e2 i (by omega)
def kwL : List Int := [284628596, 402482, 693713074, 4252850, 215205, 542622085, 13369, 19367059, 4153, 402611, 24627347, 197748, 1476, 498, 14836, 307, 51, 624435, 605220, 427481, 769604, 671108]
def ixN (w : Int) : List Int → Int → Int
  | [], _ => -1
  | c :: l, k => if w = c then k else ixN w l (k + 1)
/-- which known word it is -/
def kw (T : Int → Int) (n s : Int) : Int := if tt T n s = 1 ∧ ee T n s - s ≤ 6 then ixN (wc T s (ee T n s - s).toNat) kwL 0 else -1
theorem ixN_b (w : Int) : ∀ (l : List Int) (k : Int), 0 ≤ k → ixN w l k = -1 ∨ (k ≤ ixN w l k ∧ ixN w l k < k + l.length ∧ l[(ixN w l k - k).toNat]? = some w) := by
  intro l
  induction l with
  | nil => intro k _; exact Or.inl rfl
  | cons c l ih =>
    intro k hk
    show (if w = c then k else ixN w l (k + 1)) = -1 ∨ _
    by_cases e : w = c
    · refine Or.inr ?_
      show k ≤ (if w = c then k else ixN w l (k + 1)) ∧ (if w = c then k else ixN w l (k + 1)) < k + ((l.length + 1 : Nat) : Int) ∧ (c :: l)[((if w = c then k else ixN w l (k + 1)) - k).toNat]? = some w
      rw [if_pos e, show (k - k).toNat = 0 by omega, e]
      exact ⟨Int.le_refl _, by omega, rfl⟩
    · rcases ih (k + 1) (by omega) with h | ⟨h1, h2, h3⟩
      · exact Or.inl (by rw [if_neg e]; exact h)
      · refine Or.inr ?_
        show k ≤ (if w = c then k else ixN w l (k + 1)) ∧ (if w = c then k else ixN w l (k + 1)) < k + ((l.length + 1 : Nat) : Int) ∧ (c :: l)[((if w = c then k else ixN w l (k + 1)) - k).toNat]? = some w
        rw [if_neg e, show (ixN w l (k + 1) - k).toNat = (ixN w l (k + 1) - (k + 1)).toNat + 1 by omega]
        exact ⟨by omega, by omega, h3⟩
/-- the first that is it -/
theorem ixN_at (w : Int) : ∀ (l : List Int) (k : Int) (j : Nat), l[j]? = some w → (∀ i : Nat, i < j → l[i]? ≠ some w) → ixN w l k = k + j := by
  intro l
  induction l with
  | nil => intro k j h; simp at h
  | cons c l ih =>
    intro k j h hn
    show (if w = c then k else ixN w l (k + 1)) = k + (j : Int)
    cases j with
    | zero =>
      have h2 : c = w := Option.some.inj h
      rw [if_pos h2.symm]
      omega
    | succ j =>
      have h2 : c ≠ w := fun q => hn 0 (by omega) (by rw [q]; rfl)
      rw [if_neg (fun q => h2 q.symm), ih (k + 1) j h (fun i hi q => hn (i + 1) (by omega) q)]
      omega
theorem ixN_no (w : Int) : ∀ (l : List Int) (k : Int), (∀ i : Nat, l[i]? ≠ some w) → ixN w l k = -1 := by
  intro l
  induction l with
  | nil => intro k _; rfl
  | cons c l ih =>
    intro k hn
    show (if w = c then k else ixN w l (k + 1)) = -1
    have h2 : c ≠ w := fun q => hn 0 (by rw [q]; rfl)
    rw [if_neg (fun q => h2 q.symm)]
    exact ih (k + 1) (fun i q => hn (i + 1) q)
theorem kwL_dis : ∀ i, i < 22 → ∀ j, j < 22 → kwL[i]? = kwL[j]? → i = j := by decide +kernel
theorem kw_b (T : Int → Int) (n s : Int) : -1 ≤ kw T n s ∧ kw T n s ≤ 21 := by
  unfold kw
  split
  · rcases ixN_b (wc T s (ee T n s - s).toNat) kwL 0 (by decide) with h | ⟨h1, h2, -⟩
    · omega
    · have : kwL.length = 22 := rfl
      omega
  · omega
theorem kw_ty {T : Int → Int} {n s : Int} (h : 0 ≤ kw T n s) : tt T n s = 1 ∧ ee T n s - s ≤ 6 := by
  unfold kw at h
  split at h
  · assumption
  · omega
theorem kw_iff {T : Int → Int} {n s : Int} {k : Nat} (hk : k < 22) (h1 : tt T n s = 1) (h2 : ee T n s - s ≤ 6) : kw T n s = k ↔ kwL[k]? = some (wc T s (ee T n s - s).toNat) := by
  unfold kw
  rw [if_pos ⟨h1, h2⟩]
  constructor
  · intro h
    rcases ixN_b (wc T s (ee T n s - s).toNat) kwL 0 (by decide) with q | ⟨q1, q2, q3⟩
    · omega
    · rw [h] at q3
      rw [show ((k : Int) - 0).toNat = k by omega] at q3
      exact q3
  · intro h
    rw [ixN_at _ kwL 0 k h (fun i hi q => by have := kwL_dis i (by omega) k hk (q.trans h.symm); omega)]
    omega
/-! what stands at a token -/
def sgI (T : Int → Int) (n s c : Int) : Int := if tt T n s = 3 ∧ T s = c then 1 else 0
def nmI (T : Int → Int) (n s : Int) : Int := if tt T n s = 1 ∧ ee T n s - s = 1 then 1 else 0
def cbI (T : Int → Int) (n s : Int) : Int := if sgI T n s 40 = 1 ∨ nmI T n s = 1 ∨ kw T n s = 14 ∨ kw T n s = 18 ∨ kw T n s = 8 ∨ kw T n s = 19 ∨ kw T n s = 20 ∨ kw T n s = 21 then 1 else 0
def kdI (T : Int → Int) (n s : Int) : Int := if 0 ≤ kw T n s ∧ kw T n s ≤ 4 then kw T n s else -1
/-- the FAULT of what should be a KIND, a NAME, a NUMBER (0: none) -/
def kdE (T : Int → Int) (n s : Int) : Int := if 0 ≤ kw T n s ∧ kw T n s ≤ 4 then 0 else if tt T n s = 1 then 3 else 1
def naE (T : Int → Int) (n pp s : Int) : Int := if nmI T n s = 1 then (if T s - 97 < pp then 0 else 4) else 1
def vlI (T : Int → Int) (n s : Int) : Int := if ee T n s - s ≤ 3 then vl T s (ee T n s - s).toNat else -1
def nuE (T : Int → Int) (n s l m : Int) : Int := if tt T n s = 2 then (if ee T n s - s ≤ 3 ∧ l ≤ vlI T n s ∧ vlI T n s ≤ m then 0 else 2) else 1
theorem sg_kw {T : Int → Int} {n s c : Int} (h : sgI T n s c = 1) : kw T n s = -1 ∧ nmI T n s = 0 ∧ tt T n s = 3 := by
  have h1 : tt T n s = 3 := by
    unfold sgI at h
    split at h
    · rename_i q; exact q.1
    · omega
  refine ⟨?_, ?_, h1⟩
  · have h2 := kw_b T n s
    by_cases h3 : 0 ≤ kw T n s
    · have := (kw_ty h3).1; omega
    · omega
  · unfold nmI
    rw [if_neg (fun q => by omega)]
theorem kwL_big : ∀ k, k < 22 → ∀ w : Int, kwL[k]? = some w → 32 ≤ w := by
  intro k hk w h
  have h9 : (kwL.all fun x => decide (32 ≤ x)) = true := by decide +kernel
  exact of_decide_eq_true (List.all_eq_true.mp h9 w (List.mem_of_getElem? h))
theorem nm_kw {T : Int → Int} {n s : Int} (h : nmI T n s = 1) : kw T n s = -1 ∧ tt T n s = 1 ∧ ee T n s - s = 1 := by
  have h1 : tt T n s = 1 ∧ ee T n s - s = 1 := by
    unfold nmI at h
    split at h
    · assumption
    · omega
  refine ⟨?_, h1⟩
  have h2 := kw_b T n s
  by_cases h3 : 0 ≤ kw T n s
  · have h4 := (kw_iff (T := T) (n := n) (s := s) (k := (kw T n s).toNat) (by omega) h1.1 (by omega)).mp (by omega)
    have h5 := kwL_big _ (by omega) _ h4
    rw [h1.2] at h5
    have hs : s < n := by
      have := h1.1
      unfold tt at this
      split at this
      · assumption
      · omega
    have h6 : tyF (T s) = 1 := by
      have := h1.1
      unfold tt at this
      rw [if_pos hs] at this
      exact this
    have h7 := tyF_1.mp h6
    have h8 : (32 : Int) ≤ 32 * 0 + (T (s + ((0 : Nat) : Int)) - 96) := h5
    rw [show s + ((0 : Nat) : Int) = s by omega] at h8
    omega
  · omega
/-! the reader: (0, d, s, 0) an EXPR begins within d others, (1, d, s, k) an operand behind k 'not', (2, d, s, 0) behind an operand, (3, 0, s, k) the FAULT k, (4, 0, s, 0) the end -/
abbrev Cg : Type := Int × Int × Int × Int
def af (T : Int → Int) (n e d s : Int) : Cg := if e = 0 then (2, d, nx T n s, 0) else (3, 0, s, e)
def stE (T : Int → Int) (n d s : Int) : Cg := if cbI T n s = 1 then (if d = 6 then (3, 0, s, 2) else (1, d + 1, s, 0)) else (3, 0, s, 1)
def stN (T : Int → Int) (n pp d s : Int) : Cg := if kw T n s = 17 then (if sgI T n (nx T n s) 40 = 1 then (0, d, nx T n (nx T n s), 0) else (3, 0, nx T n s, 1)) else if kw T n s = 15 then af T n (kdE T n (nx T n s)) d (nx T n s) else if kw T n s = 16 then af T n (naE T n pp (nx T n s)) d (nx T n s) else (3, 0, s, 1)
def stM (T : Int → Int) (n d s : Int) : Cg := if kdE T n s = 0 then (if sgI T n (nx T n s) 60 = 1 ∨ sgI T n (nx T n s) 61 = 1 ∨ sgI T n (nx T n s) 62 = 1 then af T n (nuE T n (nx T n (nx T n s)) 0 99) d (nx T n (nx T n s)) else (3, 0, nx T n s, 1)) else (3, 0, s, kdE T n s)
def stA (T : Int → Int) (n d s : Int) : Cg := if kw T n s = 18 then af T n (nuE T n (nx T n s) 0 3) d (nx T n s) else if kw T n s = 8 then af T n (nuE T n (nx T n s) 0 6) d (nx T n s) else if kw T n s = 20 then af T n (nuE T n (nx T n s) 0 1) d (nx T n s) else if kw T n s = 21 then af T n (nuE T n (nx T n s) 0 99) d (nx T n s) else if kw T n s = 19 then stM T n d (nx T n s) else (3, 0, s, 1)
def stO (T : Int → Int) (n pp d s k : Int) : Cg := if kw T n s = 14 then (if k = 6 then (3, 0, s, 2) else (1, d, nx T n s, k + 1)) else if sgI T n s 40 = 1 then (0, d, nx T n s, 0) else if nmI T n s = 1 then (if naE T n pp s = 0 then stN T n pp d (nx T n s) else (3, 0, s, naE T n pp s)) else stA T n d s
def stX (T : Int → Int) (n d s : Int) : Cg := if kw T n s = 12 ∨ kw T n s = 13 then (1, d, nx T n s, 0) else if d ≤ 1 then (4, 0, s, 0) else if sgI T n s 41 = 1 then (2, d - 1, nx T n s, 0) else (3, 0, s, 1)
def st1 (T : Int → Int) (n pp : Int) (c : Cg) : Cg := if c.1 = 0 then stE T n c.2.1 c.2.2.1 else if c.1 = 1 then stO T n pp c.2.1 c.2.2.1 c.2.2.2 else if c.1 = 2 then stX T n c.2.1 c.2.2.1 else c
def itn (f : Cg → Cg) : Nat → Cg → Cg
  | 0, c => c
  | k + 1, c => f (itn f k c)
def Rch (T : Int → Int) (n pp : Int) (c c2 : Cg) : Prop := ∃ k : Nat, itn (st1 T n pp) k c = c2 ∧ ∀ j : Nat, j < k → (itn (st1 T n pp) j c).1 ≤ 2
theorem Rch.rf {T : Int → Int} {n pp : Int} (c : Cg) : Rch T n pp c c := ⟨0, rfl, fun j hj => absurd hj (Nat.not_lt_zero _)⟩
theorem Rch.snoc {T : Int → Int} {n pp : Int} {c c1 c2 : Cg} (h : Rch T n pp c c1) (h1 : c1.1 ≤ 2) (h2 : st1 T n pp c1 = c2) : Rch T n pp c c2 := by
  obtain ⟨k, e, hk⟩ := h
  refine ⟨k + 1, ?_, fun j hj => ?_⟩
  · show st1 T n pp (itn (st1 T n pp) k c) = c2
    rw [e]
    exact h2
  · by_cases q : j = k
    · rw [q, e]
      exact h1
    · exact hk j (by omega)
/-- where it stops is one place -/
theorem Rch.one {T : Int → Int} {n pp : Int} {c c1 c2 : Cg} (h1 : Rch T n pp c c1) (h2 : Rch T n pp c c2) (q1 : 3 ≤ c1.1) (q2 : 3 ≤ c2.1) : c1 = c2 := by
  obtain ⟨k, e, hk⟩ := h1
  obtain ⟨j, e2, hj⟩ := h2
  rcases Nat.lt_trichotomy k j with q | q | q
  · have := hj k q
    rw [e] at this
    omega
  · rw [← e, ← e2, q]
  · have := hk j q
    rw [e2] at this
    omega
section XT
variable {T : Int → Int} {n pp d s k : Int} {c : Cg}
theorem x_0 (h : Rch T n pp c (0, d, s, 0)) : Rch T n pp c (stE T n d s) := h.snoc (show (0 : Int) ≤ 2 by decide) rfl
theorem x_1 (h : Rch T n pp c (1, d, s, k)) : Rch T n pp c (stO T n pp d s k) := h.snoc (show (1 : Int) ≤ 2 by decide) rfl
theorem x_2 (h : Rch T n pp c (2, d, s, 0)) : Rch T n pp c (stX T n d s) := h.snoc (show (2 : Int) ≤ 2 by decide) rfl
/-- an EXPR begins -/
theorem xE_n (h : Rch T n pp c (0, d, s, 0)) (q : cbI T n s ≠ 1) : Rch T n pp c (3, 0, s, 1) := by
  have := x_0 h
  unfold stE at this
  rw [if_neg q] at this
  exact this
theorem xE_6 (h : Rch T n pp c (0, d, s, 0)) (q : cbI T n s = 1) (hd : d = 6) : Rch T n pp c (3, 0, s, 2) := by
  have := x_0 h
  unfold stE at this
  rw [if_pos q, if_pos hd] at this
  exact this
theorem xE_b (h : Rch T n pp c (0, d, s, 0)) (q : cbI T n s = 1) (hd : d ≠ 6) : Rch T n pp c (1, d + 1, s, 0) := by
  have := x_0 h
  unfold stE at this
  rw [if_pos q, if_neg hd] at this
  exact this
/-- 'not' -/
theorem xO_6 (h : Rch T n pp c (1, d, s, k)) (q : kw T n s = 14) (hk : k = 6) : Rch T n pp c (3, 0, s, 2) := by
  have := x_1 h
  unfold stO at this
  rw [if_pos q, if_pos hk] at this
  exact this
/-- a NAME -/
theorem nm_sg (q : nmI T n s = 1) (e : Int) : sgI T n s e ≠ 1 := fun h => by
  have h1 := (sg_kw h).2.1
  omega
theorem xN_e (h : Rch T n pp c (1, d, s, k)) (q : nmI T n s = 1) (hn : naE T n pp s ≠ 0) : Rch T n pp c (3, 0, s, naE T n pp s) := by
  have := x_1 h
  unfold stO at this
  rw [if_neg (by have := (nm_kw q).1; omega), if_neg (nm_sg q 40), if_pos q, if_neg hn] at this
  exact this
theorem xN_o (h : Rch T n pp c (1, d, s, k)) (q : nmI T n s = 1) (hn : naE T n pp s = 0) : Rch T n pp c (stN T n pp d (nx T n s)) := by
  have := x_1 h
  unfold stO at this
  rw [if_neg (by have := (nm_kw q).1; omega), if_neg (nm_sg q 40), if_pos q, if_pos hn] at this
  exact this
theorem stN_s (q : kw T n s = 17) (h : sgI T n (nx T n s) 40 = 1) : stN T n pp d s = (0, d, nx T n (nx T n s), 0) := by
  unfold stN
  rw [if_pos q, if_pos h]
theorem stN_sn (q : kw T n s = 17) (h : sgI T n (nx T n s) 40 ≠ 1) : stN T n pp d s = (3, 0, nx T n s, 1) := by
  unfold stN
  rw [if_pos q, if_neg h]
theorem stN_i (q : kw T n s = 15) (h : kdE T n (nx T n s) = 0) : stN T n pp d s = (2, d, nx T n (nx T n s), 0) := by
  unfold stN af
  rw [if_neg (by omega), if_pos q, if_pos h]
theorem stN_in (q : kw T n s = 15) (h : kdE T n (nx T n s) ≠ 0) : stN T n pp d s = (3, 0, nx T n s, kdE T n (nx T n s)) := by
  unfold stN af
  rw [if_neg (by omega), if_pos q, if_neg h]
theorem stN_a (q : kw T n s = 16) (h : naE T n pp (nx T n s) = 0) : stN T n pp d s = (2, d, nx T n (nx T n s), 0) := by
  unfold stN af
  rw [if_neg (by omega), if_neg (by omega), if_pos q, if_pos h]
theorem stN_an (q : kw T n s = 16) (h : naE T n pp (nx T n s) ≠ 0) : stN T n pp d s = (3, 0, nx T n s, naE T n pp (nx T n s)) := by
  unfold stN af
  rw [if_neg (by omega), if_neg (by omega), if_pos q, if_neg h]
theorem stN_n (q1 : kw T n s ≠ 17) (q2 : kw T n s ≠ 15) (q3 : kw T n s ≠ 16) : stN T n pp d s = (3, 0, s, 1) := by
  unfold stN
  rw [if_neg q1, if_neg q2, if_neg q3]
/-- other ATOMS -/
theorem xA (h : Rch T n pp c (1, d, s, k)) (q1 : kw T n s ≠ 14) (q2 : sgI T n s 40 ≠ 1) (q3 : nmI T n s ≠ 1) : Rch T n pp c (stA T n d s) := by
  have := x_1 h
  unfold stO at this
  rw [if_neg q1, if_neg q2, if_neg q3] at this
  exact this
theorem stA_0 {m : Int} (q : (kw T n s = 18 ∧ m = 3) ∨ (kw T n s = 8 ∧ m = 6) ∨ (kw T n s = 20 ∧ m = 1) ∨ (kw T n s = 21 ∧ m = 99)) (h : nuE T n (nx T n s) 0 m = 0) : stA T n d s = (2, d, nx T n (nx T n s), 0) := by
  unfold stA
  rcases q with ⟨q, rfl⟩ | ⟨q, rfl⟩ | ⟨q, rfl⟩ | ⟨q, rfl⟩
  · rw [if_pos q]
    unfold af
    rw [if_pos h]
  · rw [if_neg (by omega), if_pos q]
    unfold af
    rw [if_pos h]
  · rw [if_neg (by omega), if_neg (by omega), if_pos q]
    unfold af
    rw [if_pos h]
  · rw [if_neg (by omega), if_neg (by omega), if_neg (by omega), if_pos q]
    unfold af
    rw [if_pos h]
theorem stA_e {m : Int} (q : (kw T n s = 18 ∧ m = 3) ∨ (kw T n s = 8 ∧ m = 6) ∨ (kw T n s = 20 ∧ m = 1) ∨ (kw T n s = 21 ∧ m = 99)) (h : nuE T n (nx T n s) 0 m ≠ 0) : stA T n d s = (3, 0, nx T n s, nuE T n (nx T n s) 0 m) := by
  unfold stA
  rcases q with ⟨q, rfl⟩ | ⟨q, rfl⟩ | ⟨q, rfl⟩ | ⟨q, rfl⟩
  · rw [if_pos q]
    unfold af
    rw [if_neg h]
  · rw [if_neg (by omega), if_pos q]
    unfold af
    rw [if_neg h]
  · rw [if_neg (by omega), if_neg (by omega), if_pos q]
    unfold af
    rw [if_neg h]
  · rw [if_neg (by omega), if_neg (by omega), if_neg (by omega), if_pos q]
    unfold af
    rw [if_neg h]
theorem stA_m (q : kw T n s = 19) : stA T n d s = stM T n d (nx T n s) := by
  unfold stA
  rw [if_neg (by omega), if_neg (by omega), if_neg (by omega), if_neg (by omega), if_pos q]
theorem stA_n (q1 : kw T n s ≠ 18) (q2 : kw T n s ≠ 8) (q3 : kw T n s ≠ 20) (q4 : kw T n s ≠ 21) (q5 : kw T n s ≠ 19) : stA T n d s = (3, 0, s, 1) := by
  unfold stA
  rw [if_neg q1, if_neg q2, if_neg q3, if_neg q4, if_neg q5]
theorem stM_k (h : kdE T n s ≠ 0) : stM T n d s = (3, 0, s, kdE T n s) := by
  unfold stM
  rw [if_neg h]
theorem stM_s (h : kdE T n s = 0) (h2 : ¬ (sgI T n (nx T n s) 60 = 1 ∨ sgI T n (nx T n s) 61 = 1 ∨ sgI T n (nx T n s) 62 = 1)) : stM T n d s = (3, 0, nx T n s, 1) := by
  unfold stM
  rw [if_pos h, if_neg h2]
theorem stM_0 (h : kdE T n s = 0) (h2 : sgI T n (nx T n s) 60 = 1 ∨ sgI T n (nx T n s) 61 = 1 ∨ sgI T n (nx T n s) 62 = 1) (h3 : nuE T n (nx T n (nx T n s)) 0 99 = 0) : stM T n d s = (2, d, nx T n (nx T n (nx T n s)), 0) := by
  unfold stM af
  rw [if_pos h, if_pos h2, if_pos h3]
theorem stM_e (h : kdE T n s = 0) (h2 : sgI T n (nx T n s) 60 = 1 ∨ sgI T n (nx T n s) 61 = 1 ∨ sgI T n (nx T n s) 62 = 1) (h3 : nuE T n (nx T n (nx T n s)) 0 99 ≠ 0) : stM T n d s = (3, 0, nx T n (nx T n s), nuE T n (nx T n (nx T n s)) 0 99) := by
  unfold stM af
  rw [if_pos h, if_pos h2, if_neg h3]
/-- behind an operand -/
theorem xX_o (h : Rch T n pp c (2, d, s, 0)) (q : kw T n s = 12 ∨ kw T n s = 13) : Rch T n pp c (1, d, nx T n s, 0) := by
  have := x_2 h
  unfold stX at this
  rw [if_pos q] at this
  exact this
theorem xX_e (h : Rch T n pp c (2, d, s, 0)) (q : ¬ (kw T n s = 12 ∨ kw T n s = 13)) (hd : d ≤ 1) : Rch T n pp c (4, 0, s, 0) := by
  have := x_2 h
  unfold stX at this
  rw [if_neg q, if_pos hd] at this
  exact this
theorem xX_c (h : Rch T n pp c (2, d, s, 0)) (hd : ¬ d ≤ 1) (q2 : sgI T n s 41 = 1) : Rch T n pp c (2, d - 1, nx T n s, 0) := by
  have := x_2 h
  unfold stX at this
  rw [if_neg (by have := (sg_kw q2).1; omega), if_neg hd, if_pos q2] at this
  exact this
theorem xX_n (h : Rch T n pp c (2, d, s, 0)) (q : ¬ (kw T n s = 12 ∨ kw T n s = 13)) (hd : ¬ d ≤ 1) (q2 : sgI T n s 41 ≠ 1) : Rch T n pp c (3, 0, s, 1) := by
  have := x_2 h
  unfold stX at this
  rw [if_neg q, if_neg hd, if_neg q2] at this
  exact this
end XT
theorem kw_lt {T : Int → Int} {n s : Int} : kw T n s = -1 ∨ s < n := by
  have h2 := kw_b T n s
  by_cases h : 0 ≤ kw T n s
  · have h3 := (kw_ty h).1
    unfold tt at h3
    split at h3
    · omega
    · omega
  · omega
theorem nx_lt {T : Int → Int} {n s : Int} (h : s ≤ n) : n ≤ s ∨ s + 1 ≤ nx T n s := by
  have := (nx_r (T := T) h).2.2
  omega
theorem or_l {z : Int} {A B : Prop} (h : (z = 1 ∧ A) ∨ (z = 0 ∧ B)) (q : z = 1) : A := by
  rcases h with ⟨-, r⟩ | ⟨e, -⟩
  · exact r
  · omega
theorem or_r {z : Int} {A B : Prop} (h : (z = 1 ∧ A) ∨ (z = 0 ∧ B)) (q : z = 0) : B := by
  rcases h with ⟨e, -⟩ | ⟨-, r⟩
  · omega
  · exact r
section YT
variable {T : Int → Int} {n pp d : Int} {c : Cg}
def PX (T : Int → Int) (n pp : Int) (c : Cg) (d v : Int) : Prop := (sgI T n v 40 = 1 → Rch T n pp c (0, d, nx T n v, 0)) ∧ (sgI T n v 40 ≠ 1 → Rch T n pp c (3, 0, v, 1))
def AX (T : Int → Int) (n pp : Int) (c : Cg) (d m v : Int) : Prop := ∃ s, ((kw T n s = 18 ∧ m = 3) ∨ (kw T n s = 8 ∧ m = 6) ∨ (kw T n s = 20 ∧ m = 1) ∨ (kw T n s = 21 ∧ m = 99)) ∧ v = nx T n s ∧ Rch T n pp c (stA T n d s)
def MX (T : Int → Int) (n pp : Int) (c : Cg) (d k v p f : Int) : Prop := (k = -1 → Rch T n pp c (3, 0, p, f)) ∧ (k ≠ -1 → ∃ s, kdE T n s = 0 ∧ v = nx T n s ∧ Rch T n pp c (stM T n d s))
theorem N1 {s k v : Int} (h : Rch T n pp c (1, d, s, k)) (q : nmI T n s = 1) (hn : naE T n pp s = 0) (e : v = nx T n s) : Rch T n pp c (stN T n pp d v) := by rw [e]; exact xN_o h q hn
theorem N0 {s k p f : Int} (h : Rch T n pp c (1, d, s, k)) (q : nmI T n s = 1) (hn : naE T n pp s ≠ 0) (e1 : p = s) (e2 : f = naE T n pp s) : Rch T n pp c (3, 0, p, f) := by rw [e1, e2]; exact xN_e h q hn
theorem N_in {v v2 p f : Int} (h : Rch T n pp c (stN T n pp d v)) (q : kw T n v = 15) (e : v2 = nx T n v) (hk : kdE T n v2 ≠ 0) (e1 : p = v2) (e2 : f = kdE T n v2) : Rch T n pp c (3, 0, p, f) := by
  subst e
  rw [stN_in q hk] at h
  rw [e1, e2]
  exact h
theorem N_an {v v2 p f : Int} (h : Rch T n pp c (stN T n pp d v)) (q : kw T n v = 16) (e : v2 = nx T n v) (hk : naE T n pp v2 ≠ 0) (e1 : p = v2) (e2 : f = naE T n pp v2) : Rch T n pp c (3, 0, p, f) := by
  subst e
  rw [stN_an q hk] at h
  rw [e1, e2]
  exact h
theorem N_n {v p f : Int} (h : Rch T n pp c (stN T n pp d v)) (q1 : kw T n v ≠ 17) (q2 : kw T n v ≠ 15) (q3 : kw T n v ≠ 16) (e1 : p = v) (e2 : f = 1) : Rch T n pp c (3, 0, p, f) := by
  rw [stN_n q1 q2 q3] at h
  rw [e1, e2]
  exact h
theorem N_s {v v2 : Int} (h : Rch T n pp c (stN T n pp d v)) (q : kw T n v = 17) (e : v2 = nx T n v) : PX T n pp c d v2 := by
  subst e
  refine ⟨fun g => ?_, fun g => ?_⟩
  · rw [stN_s q g] at h
    exact h
  · rw [stN_sn q g] at h
    exact h
theorem PX_0 {v p f : Int} (h : PX T n pp c d v) (q : sgI T n v 40 ≠ 1) (e1 : p = v) (e2 : f = 1) : Rch T n pp c (3, 0, p, f) := by rw [e1, e2]; exact h.2 q
theorem E_n {s p f : Int} (h : Rch T n pp c (0, d, s, 0)) (q : cbI T n s ≠ 1) (e1 : p = s) (e2 : f = 1) : Rch T n pp c (3, 0, p, f) := by rw [e1, e2]; exact xE_n h q
theorem E_6 {s p f : Int} (h : Rch T n pp c (0, d, s, 0)) (q : cbI T n s = 1) (hd : d = 6) (e1 : p = s) (e2 : f = 2) : Rch T n pp c (3, 0, p, f) := by rw [e1, e2]; exact xE_6 h q hd
theorem E_b {s d2 : Int} (h : Rch T n pp c (0, d, s, 0)) (q : cbI T n s = 1) (hd : d ≠ 6) (e : d2 = d + 1) : Rch T n pp c (1, d2, s, 0) := by rw [e]; exact xE_b h q hd
theorem O_6 {s k p f : Int} (h : Rch T n pp c (1, d, s, k)) (q : kw T n s = 14) (hk : k = 6) (e1 : p = s) (e2 : f = 2) : Rch T n pp c (3, 0, p, f) := by rw [e1, e2]; exact xO_6 h q hk
theorem F_k {p p2 f f2 : Int} (h : Rch T n pp c (3, 0, p, f)) (e1 : p2 = p) (e2 : f2 = f) : Rch T n pp c (3, 0, p2, f2) := by rw [e1, e2]; exact h
theorem A1 {s k m v : Int} (h : Rch T n pp c (1, d, s, k)) (q1 : kw T n s ≠ 14) (q2 : sgI T n s 40 ≠ 1) (q3 : nmI T n s ≠ 1) (q : (kw T n s = 18 ∧ m = 3) ∨ (kw T n s = 8 ∧ m = 6) ∨ (kw T n s = 20 ∧ m = 1) ∨ (kw T n s = 21 ∧ m = 99)) (e : v = nx T n s) : AX T n pp c d m v := ⟨s, q, e, xA h q1 q2 q3⟩
theorem AX_e {m v p f : Int} (h : AX T n pp c d m v) (hn : nuE T n v 0 m ≠ 0) (e1 : p = v) (e2 : f = nuE T n v 0 m) : Rch T n pp c (3, 0, p, f) := by
  obtain ⟨s, q, e3, h⟩ := h
  subst e3
  rw [stA_e q hn] at h
  rw [e1, e2]
  exact h
theorem A_m {s k v : Int} (h : Rch T n pp c (1, d, s, k)) (q1 : sgI T n s 40 ≠ 1) (q2 : nmI T n s ≠ 1) (q : kw T n s = 19) (e : v = nx T n s) : Rch T n pp c (stM T n d v) := by
  have h2 := xA h (by omega) q1 q2
  rw [stA_m q] at h2
  rw [e]
  exact h2
theorem A_n {s k p f : Int} (h : Rch T n pp c (1, d, s, k)) (q1 : kw T n s ≠ 14) (q2 : sgI T n s 40 ≠ 1) (q3 : nmI T n s ≠ 1) (a1 : kw T n s ≠ 18) (a2 : kw T n s ≠ 8) (a3 : kw T n s ≠ 20) (a4 : kw T n s ≠ 21) (a5 : kw T n s ≠ 19) (e1 : p = s) (e2 : f = 1) : Rch T n pp c (3, 0, p, f) := by
  have h2 := xA h q1 q2 q3
  rw [stA_n a1 a2 a3 a4 a5] at h2
  rw [e1, e2]
  exact h2
theorem M_k {v p f : Int} (h : Rch T n pp c (stM T n d v)) (q : kdE T n v ≠ 0) (e1 : p = v) (e2 : f = kdE T n v) : Rch T n pp c (3, 0, p, f) := by
  rw [stM_k q] at h
  rw [e1, e2]
  exact h
theorem MX_f {k v p f p2 f2 : Int} (h : MX T n pp c d k v p f) (q : k = -1) (e1 : p2 = p) (e2 : f2 = f) : Rch T n pp c (3, 0, p2, f2) := by rw [e1, e2]; exact h.1 q
theorem MX_s {k v p f p2 f2 : Int} (h : MX T n pp c d k v p f) (q : k ≠ -1) (h2 : ¬ (sgI T n v 60 = 1 ∨ sgI T n v 61 = 1 ∨ sgI T n v 62 = 1)) (e1 : p2 = v) (e2 : f2 = 1) : Rch T n pp c (3, 0, p2, f2) := by
  obtain ⟨s, a, b, g⟩ := h.2 q
  subst b
  rw [stM_s a h2] at g
  rw [e1, e2]
  exact g
theorem MX_e {k v p f v2 p2 f2 : Int} (h : MX T n pp c d k v p f) (q : k ≠ -1) (h2 : sgI T n v 60 = 1 ∨ sgI T n v 61 = 1 ∨ sgI T n v 62 = 1) (e : v2 = nx T n v) (hn : nuE T n v2 0 99 ≠ 0) (e1 : p2 = v2) (e2 : f2 = nuE T n v2 0 99) : Rch T n pp c (3, 0, p2, f2) := by
  obtain ⟨s, a, b, g⟩ := h.2 q
  subst b
  subst e
  rw [stM_e a h2 hn] at g
  rw [e1, e2]
  exact g
theorem X_o {s v : Int} (h : Rch T n pp c (2, d, s, 0)) (q : kw T n s = 12 ∨ kw T n s = 13) (e : v = nx T n s) : Rch T n pp c (1, d, v, 0) := by rw [e]; exact xX_o h q
theorem X_e {s v : Int} (h : Rch T n pp c (2, d, s, 0)) (q : ¬ (kw T n s = 12 ∨ kw T n s = 13)) (hd : d ≤ 1) (e : v = s) : Rch T n pp c (4, 0, v, 0) := by rw [e]; exact xX_e h q hd
theorem X_c {s v d2 : Int} (h : Rch T n pp c (2, d, s, 0)) (hd : ¬ d ≤ 1) (q : sgI T n s 41 = 1) (e : v = nx T n s) (e2 : d2 = d - 1) : Rch T n pp c (2, d2, v, 0) := by rw [e, e2]; exact xX_c h hd q
theorem X_n {s p f : Int} (h : Rch T n pp c (2, d, s, 0)) (q : ¬ (kw T n s = 12 ∨ kw T n s = 13)) (hd : ¬ d ≤ 1) (q2 : sgI T n s 41 ≠ 1) (e1 : p = s) (e2 : f = 1) : Rch T n pp c (3, 0, p, f) := by rw [e1, e2]; exact xX_n h q hd q2
end YT
/-- how a SENTENCE's text ends: r its FAULT (0: none), pl where -/
def SO (T : Int → Int) (n pp r pl : Int) : Prop := (∃ s, Rch T n pp (0, 0, sk T n 0, 0) (4, 0, s, 0) ∧ ((sgI T n s 59 = 1 ∧ tt T n (nx T n s) = 0 ∧ r = 0 ∧ pl = -1) ∨ (sgI T n s 59 = 1 ∧ tt T n (nx T n s) ≠ 0 ∧ r = 1 ∧ pl = nx T n s) ∨ (sgI T n s 59 ≠ 1 ∧ r = 1 ∧ pl = s))) ∨ Rch T n pp (0, 0, sk T n 0, 0) (3, 0, pl, r)
theorem SO_one {T : Int → Int} {n pp r pl r2 pl2 : Int} (h1 : SO T n pp r pl) (h2 : SO T n pp r2 pl2) : r = r2 ∧ pl = pl2 := by
  rcases h1 with ⟨s, a, h1⟩ | h1
  · rcases h2 with ⟨s2, b, h2⟩ | h2
    · have e := a.one b (show (3 : Int) ≤ 4 by decide) (show (3 : Int) ≤ 4 by decide)
      have e1 : s = s2 := congrArg (fun c : Cg => c.2.2.1) e
      subst e1
      omega
    · have e := a.one h2 (show (3 : Int) ≤ 4 by decide) (show (3 : Int) ≤ 3 by decide)
      have e1 : (4 : Int) = 3 := congrArg (fun c : Cg => c.1) e
      omega
  · rcases h2 with ⟨s2, b, h2⟩ | h2
    · have e := h1.one b (show (3 : Int) ≤ 3 by decide) (show (3 : Int) ≤ 4 by decide)
      have e1 : (3 : Int) = 4 := congrArg (fun c : Cg => c.1) e
      omega
    · have e := h1.one h2 (show (3 : Int) ≤ 3 by decide) (show (3 : Int) ≤ 3 by decide)
      exact ⟨congrArg (fun c : Cg => c.2.2.2) e, congrArg (fun c : Cg => c.2.2.1) e⟩
theorem SO_f {T : Int → Int} {n m pp p f r pl : Int} (h : Rch T n pp (0, 0, sk T m 0, 0) (3, 0, p, f)) (e9 : n = m) (e1 : pl = p) (e2 : r = f) : SO T m pp r pl := by
  subst e9
  rw [e1, e2]
  exact Or.inr h
theorem SO_3 {T : Int → Int} {n m pp s r pl : Int} (h : Rch T n pp (0, 0, sk T m 0, 0) (4, 0, s, 0)) (e9 : n = m) (q : sgI T n s 59 ≠ 1) (e1 : pl = s) (e2 : r = 1) : SO T m pp r pl := by
  subst e9
  exact Or.inl ⟨s, h, Or.inr (Or.inr ⟨q, e2, e1⟩)⟩
theorem SO_2 {T : Int → Int} {n m pp s v2 r pl : Int} (h : Rch T n pp (0, 0, sk T m 0, 0) (4, 0, s, 0)) (e9 : n = m) (q : sgI T n s 59 = 1) (e : v2 = nx T n s) (ht : tt T n v2 ≠ 0) (e1 : pl = v2) (e2 : r = 1) : SO T m pp r pl := by
  subst e9
  subst e
  exact Or.inl ⟨s, h, Or.inr (Or.inl ⟨q, ht, e2, e1⟩)⟩
theorem SO_1 {T : Int → Int} {n m pp s v2 r pl : Int} (h : Rch T n pp (0, 0, sk T m 0, 0) (4, 0, s, 0)) (e9 : n = m) (q : sgI T n s 59 = 1) (e : v2 = nx T n s) (ht : tt T n v2 = 0) (e1 : pl = -1) (e2 : r = 0) : SO T m pp r pl := by
  subst e9
  subst e
  exact Or.inl ⟨s, h, Or.inl ⟨q, ht, e2, e1⟩⟩
