/-! ===== what an EXPR's steps mean: the class's steps, the model's ===== -/
/-- of a WORLD at a time: 0 .. 6 the KINDS, 10 the ROAD, 11 the DAY, 12 the WORD, 13 how many PEOPLE, 20 .. 26 how one is now (0 HONEST, 1 LIAR, 2 FREE), 30 .. what was told -/
abbrev Ev : Type := Int → Int
def cnK (e : Ev) (k : Int) : Nat → Int
  | 0 => 0
  | n + 1 => cnK e k n + (if e n = k then 1 else 0)
/-- how many are of a KIND -/
def cnt (e : Ev) (k : Int) : Int := cnK e k (e 13).toNat
theorem cnK_b (e : Ev) (k : Int) : ∀ n : Nat, 0 ≤ cnK e k n ∧ cnK e k n ≤ n := by
  intro n
  induction n with
  | zero => exact ⟨Int.le_refl _, Int.le_refl _⟩
  | succ n ih =>
    show 0 ≤ cnK e k n + (if e n = k then 1 else 0) ∧ cnK e k n + (if e n = k then 1 else 0) ≤ ((n + 1 : Nat) : Int)
    split <;> omega
/-- a row that a step names -/
def rwv (e : Ev) (r : Int) : Bool :=
  if r < 35 then decide (e (r / 5) = r % 5) else if r < 39 then decide (e 10 = r - 35) else if r < 46 then decide (e 11 = r - 39) else if r < 48 then decide (e 12 = r - 46) else if r < 117 then decide (e (30 + (r - 102)) = 1) else decide (r = 118)
def hd0 : List Bool → Bool
  | [] => false
  | b :: _ => b
def sayv (l : Int) (b : Bool) : Bool := if l = 2 then true else if l = 1 then !b else b
/-- the class's step -/
def stC (e : Ev) (x : Int) (st : List Bool) : List Bool :=
  if x % 8 = 0 then rwv e (x / 8) :: st
  else if x % 8 = 5 then decide (e (x / 8 / 8) = e (x / 8 % 8)) :: st
  else if x % 8 = 6 then decide (x / 8 % 256 / pw (cnt e (x / 8 / 256)) % 2 = 1) :: st
  else if x % 8 = 1 then (!hd0 st) :: st.tail
  else if x % 8 = 4 then sayv (e (20 + x / 8)) (hd0 st) :: st.tail
  else if x % 8 = 2 then (hd0 st.tail && hd0 st) :: st.tail.tail
  else (hd0 st.tail || hd0 st) :: st.tail.tail
/-- the model's -/
def stR (e : Ev) (x : Int) (st : List Bool) : List Bool :=
  if x % 16 = 10 then (!hd0 st) :: st.tail
  else if x % 16 = 13 then sayv (e (20 + x / 16 % 128)) (hd0 st) :: st.tail
  else if x % 16 = 11 then (hd0 st.tail && hd0 st) :: st.tail.tail
  else if x % 16 = 12 then (hd0 st.tail || hd0 st) :: st.tail.tail
  else (if x % 16 = 1 then decide (e (x / 16 % 128) = x / 2048)
    else if x % 16 = 2 then decide (e (x / 16 % 128) = e (x / 2048))
    else if x % 16 = 3 then decide (e 10 = x / 16 % 128)
    else if x % 16 = 4 then decide (e 11 = x / 16 % 128)
    else if x % 16 = 5 then decide (cnt e (x / 16 % 128) < x / 2048)
    else if x % 16 = 6 then decide (cnt e (x / 16 % 128) = x / 2048)
    else if x % 16 = 7 then decide (cnt e (x / 16 % 128) > x / 2048)
    else if x % 16 = 8 then decide (e 12 = x / 16 % 128)
    else decide (e (30 + x / 16 % 128) = 1)) :: st
def runC (e : Ev) : List Int → List Bool → List Bool
  | [], st => st
  | x :: l, st => runC e l (stC e x st)
def runR (e : Ev) : List Int → List Bool → List Bool
  | [], st => st
  | x :: l, st => runR e l (stR e x st)
theorem runC_app (e : Ev) : ∀ (l l2 : List Int) (st : List Bool), runC e (l ++ l2) st = runC e l2 (runC e l st) := by
  intro l
  induction l with
  | nil => intro l2 st; rfl
  | cons x l ih => intro l2 st; exact ih l2 _
theorem runR_app (e : Ev) : ∀ (l l2 : List Int) (st : List Bool), runR e (l ++ l2) st = runR e l2 (runR e l st) := by
  intro l
  induction l with
  | nil => intro l2 st; rfl
  | cons x l ih => intro l2 st; exact ih l2 _
/-! how high the class's stack stands -/
def dlt (x : Int) : Int := if x % 8 = 0 ∨ x % 8 = 5 ∨ x % 8 = 6 then 1 else if x % 8 = 1 ∨ x % 8 = 4 then 0 else -1
def nee (x : Int) : Int := if x % 8 = 0 ∨ x % 8 = 5 ∨ x % 8 = 6 then 0 else if x % 8 = 1 ∨ x % 8 = 4 then 1 else if x % 8 = 7 then 100 else 2
def okH (K : Int) : List Int → Int → Prop
  | [], _ => True
  | x :: l, h => nee x ≤ h ∧ h + dlt x ≤ K ∧ okH K l (h + dlt x)
def enH : List Int → Int → Int
  | [], h => h
  | x :: l, h => enH l (h + dlt x)
theorem okH_app (K : Int) : ∀ (l l2 : List Int) (h : Int), okH K (l ++ l2) h ↔ okH K l h ∧ okH K l2 (enH l h) := by
  intro l
  induction l with
  | nil => intro l2 h; exact ⟨fun q => ⟨trivial, q⟩, fun q => q.2⟩
  | cons x l ih =>
    intro l2 h
    show (nee x ≤ h ∧ h + dlt x ≤ K ∧ okH K (l ++ l2) (h + dlt x)) ↔ (nee x ≤ h ∧ h + dlt x ≤ K ∧ okH K l (h + dlt x)) ∧ okH K l2 (enH l (h + dlt x))
    rw [ih]
    exact ⟨fun q => ⟨⟨q.1, q.2.1, q.2.2.1⟩, q.2.2.2⟩, fun q => ⟨q.1.1, q.1.2.1, q.1.2.2, q.2⟩⟩
theorem enH_app : ∀ (l l2 : List Int) (h : Int), enH (l ++ l2) h = enH l2 (enH l h) := by
  intro l
  induction l with
  | nil => intro l2 h; rfl
  | cons x l ih => intro l2 h; exact ih l2 _
theorem okH_mono {K K2 : Int} (hK : K ≤ K2) : ∀ (l : List Int) (h : Int), okH K l h → okH K2 l h := by
  intro l
  induction l with
  | nil => intro h _; trivial
  | cons x l ih => intro h q; exact ⟨q.1, Int.le_trans q.2.1 hK, ih _ q.2.2⟩
/-- what is asked of such a row of numbers -/
def OKE (e : Ev) : Prop := 0 ≤ e 13 ∧ e 13 ≤ 7 ∧ ∀ k : Int, 15 ≤ k → e (30 + k) ≠ 1
/-- a step of the class tells of PEOPLE that there are, of rows that are filled -/
def okx (pp x : Int) : Prop := (x % 8 = 0 → 0 ≤ x / 8 ∧ ((x / 8 < 35 ∧ x / 8 / 5 < pp) ∨ (35 ≤ x / 8 ∧ x / 8 < 48) ∨ (102 ≤ x / 8 ∧ x / 8 ≤ 118))) ∧ (x % 8 = 4 → 0 ≤ x / 8 ∧ x / 8 < pp) ∧ (x % 8 = 5 → 0 ≤ x / 8 ∧ x / 8 / 8 < pp ∧ x / 8 % 8 < pp) ∧ (x % 8 = 6 → 0 ≤ x / 8 ∧ x / 8 / 256 ≤ 4)
/-- the class's steps C and the model's O mean the same, on a stack that grows by at most g -/
def EQ (pp : Int) (C O : List Int) (g : Int) : Prop := 1 ≤ g ∧ (∀ x ∈ C, okx pp x) ∧ ∃ v : Ev → Bool, (∀ e st, OKE e → runC e C st = v e :: st ∧ runR e O st = v e :: st) ∧ ∀ h : Int, 0 ≤ h → okH (h + g) C h ∧ enH C h = h + 1
theorem EQ_mono {pp : Int} {C O : List Int} {g g2 : Int} (h : EQ pp C O g) (hg : g ≤ g2) : EQ pp C O g2 := by
  obtain ⟨h0, hp, v, h1, h2⟩ := h
  exact ⟨by omega, hp, v, h1, fun h q => ⟨okH_mono (by omega) _ _ (h2 h q).1, (h2 h q).2⟩⟩
/-- one step each -/
theorem EQ_atom {pp x y : Int} (hp : okx pp x) (v : Ev → Bool) (h1 : ∀ e st, OKE e → stC e x st = v e :: st) (h2 : ∀ e st, OKE e → stR e y st = v e :: st) (hx : x % 8 = 0 ∨ x % 8 = 5 ∨ x % 8 = 6) : EQ pp [x] [y] 1 := by
  refine ⟨by decide, fun q hq => by rw [List.mem_singleton.mp hq]; exact hp, v, fun e st a => ⟨h1 e st a, h2 e st a⟩, fun h q => ?_⟩
  have e1 : dlt x = 1 := if_pos hx
  have e2 : nee x = 0 := if_pos hx
  exact ⟨⟨by omega, by omega, trivial⟩, by show h + dlt x = h + 1; omega⟩
theorem EQ_un {pp : Int} {C O : List Int} {g x y : Int} (hp : okx pp x) (f : Ev → Bool → Bool) (h : EQ pp C O g) (h1 : ∀ e b st, stC e x (b :: st) = f e b :: st) (h2 : ∀ e b st, stR e y (b :: st) = f e b :: st) (hx : x % 8 = 1 ∨ x % 8 = 4) : EQ pp (C ++ [x]) (O ++ [y]) g := by
  obtain ⟨h0, hq, v, h3, h4⟩ := h
  refine ⟨h0, fun q hm => (List.mem_append.mp hm).elim (hq q) (fun hm => by rw [List.mem_singleton.mp hm]; exact hp), fun e => f e (v e), fun e st a => ?_, fun h q => ?_⟩
  · rw [runC_app, runR_app, (h3 e st a).1, (h3 e st a).2]
    exact ⟨h1 _ _ _, h2 _ _ _⟩
  · have h5 := h4 h q
    rw [okH_app, enH_app, h5.2]
    have e1 : dlt x = 0 := (if_neg (by omega)).trans (if_pos hx)
    have e2 : nee x = 1 := (if_neg (by omega)).trans (if_pos hx)
    exact ⟨⟨h5.1, by omega, by omega, trivial⟩, by show h + 1 + dlt x = h + 1; omega⟩
theorem okx_n (pp : Int) {x : Int} (h : x % 8 = 1 ∨ x % 8 = 2 ∨ x % 8 = 3) : okx pp x := ⟨fun q => by omega, fun q => by omega, fun q => by omega, fun q => by omega⟩
theorem EQ_not {pp : Int} {C O : List Int} {g : Int} (h : EQ pp C O g) : EQ pp (C ++ [1]) (O ++ [10]) g := EQ_un (okx_n pp (Or.inl rfl)) (fun _ b => !b) h (fun _ _ _ => rfl) (fun _ _ _ => rfl) (Or.inl rfl)
theorem EQ_says {pp : Int} {C O : List Int} {g p : Int} (h : EQ pp C O g) (h0 : 0 ≤ p) (h6 : p ≤ 6) (hp : p < pp) : EQ pp (C ++ [4 + 8 * p]) (O ++ [13 + 16 * p]) g := by
  refine EQ_un ⟨fun q => by omega, fun q => by omega, fun q => by omega, fun q => by omega⟩ (fun e b => sayv (e (20 + p)) b) h (fun e b st => ?_) (fun e b st => ?_) (Or.inr (by omega))
  · unfold stC
    rw [if_neg (by omega), if_neg (by omega), if_neg (by omega), if_neg (by omega), if_pos (by omega), show (4 + 8 * p) / 8 = p by omega]
    rfl
  · unfold stR
    rw [if_neg (by omega), if_pos (by omega), show (13 + 16 * p) / 16 % 128 = p by omega]
    rfl
theorem EQ_bin {pp : Int} {C O C2 O2 : List Int} {g g2 g3 x y : Int} (f : Bool → Bool → Bool) (h : EQ pp C O g) (h2 : EQ pp C2 O2 g2) (h1 : ∀ e b c st, stC e x (c :: b :: st) = f b c :: st) (h3 : ∀ e b c st, stR e y (c :: b :: st) = f b c :: st) (hx : x % 8 = 2 ∨ x % 8 = 3) (hg : g ≤ g3) (hg2 : g2 + 1 ≤ g3) : EQ pp (C ++ C2 ++ [x]) (O ++ O2 ++ [y]) g3 := by
  obtain ⟨h0, hq, v, h5, h6⟩ := h
  obtain ⟨h0', hq', v2, h5', h6'⟩ := h2
  refine ⟨by omega, fun q hm => (List.mem_append.mp hm).elim (fun hm => (List.mem_append.mp hm).elim (hq q) (hq' q)) (fun hm => by rw [List.mem_singleton.mp hm]; exact okx_n pp (by omega)), fun e => f (v e) (v2 e), fun e st a => ?_, fun h q => ?_⟩
  · rw [runC_app, runC_app, runR_app, runR_app, (h5 e st a).1, (h5 e st a).2, (h5' e _ a).1, (h5' e _ a).2]
    exact ⟨h1 _ _ _ _, h3 _ _ _ _⟩
  · have h7 := h6 h q
    have h8 := h6' (h + 1) (by omega)
    rw [okH_app, okH_app, enH_app (C ++ C2) [x], enH_app C C2, h7.2, h8.2]
    have e1 : dlt x = -1 := (if_neg (by omega)).trans (if_neg (by omega))
    have e2 : nee x = 2 := (if_neg (by omega)).trans ((if_neg (by omega)).trans (if_neg (by omega)))
    exact ⟨⟨⟨okH_mono (by omega) _ _ h7.1, okH_mono (by omega) _ _ h8.1⟩, by omega, by omega, trivial⟩, by show h + 1 + 1 + dlt x = h + 1; omega⟩
theorem EQ_and {pp : Int} {C O C2 O2 : List Int} {g g2 g3 : Int} (h : EQ pp C O g) (h2 : EQ pp C2 O2 g2) (hg : g ≤ g3) (hg2 : g2 + 1 ≤ g3) : EQ pp (C ++ C2 ++ [2]) (O ++ O2 ++ [11]) g3 := EQ_bin (fun a b => a && b) h h2 (fun _ _ _ _ => rfl) (fun _ _ _ _ => rfl) (Or.inl rfl) hg hg2
theorem EQ_or {pp : Int} {C O C2 O2 : List Int} {g g2 g3 : Int} (h : EQ pp C O g) (h2 : EQ pp C2 O2 g2) (hg : g ≤ g3) (hg2 : g2 + 1 ≤ g3) : EQ pp (C ++ C2 ++ [3]) (O ++ O2 ++ [12]) g3 := EQ_bin (fun a b => a || b) h h2 (fun _ _ _ _ => rfl) (fun _ _ _ _ => rfl) (Or.inr rfl) hg hg2
/-- two 'not' are none -/
theorem EQ_nn {pp : Int} {C O : List Int} {g : Int} (h : EQ pp C O g) : EQ pp C (O ++ [10] ++ [10]) g := by
  obtain ⟨h0, hq, v, h1, h2⟩ := h
  refine ⟨h0, hq, v, fun e st a => ⟨(h1 e st a).1, ?_⟩, h2⟩
  rw [runR_app, runR_app, (h1 e st a).2]
  show (!(!v e)) :: st = v e :: st
  rw [Bool.not_not]
def nots : Nat → List Int
  | 0 => []
  | n + 1 => nots n ++ [10]
theorem EQ_nots {pp : Int} {C O : List Int} {g : Int} (h : EQ pp C O g) : ∀ n : Nat, EQ pp (if n % 2 = 1 then C ++ [1] else C) (O ++ nots n) g ∧ EQ pp (if n % 2 = 1 then C else C ++ [1]) (O ++ nots (n + 1)) g := by
  intro n
  induction n with
  | zero =>
    refine ⟨?_, ?_⟩
    · rw [if_neg (by decide)]
      show EQ pp C (O ++ []) g
      rw [List.append_nil]
      exact h
    · rw [if_neg (by decide)]
      exact EQ_not h
  | succ n ih =>
    refine ⟨?_, ?_⟩
    · by_cases q : n % 2 = 1
      · have := ih.2
        rw [if_pos q] at this
        rw [if_neg (by omega)]
        exact this
      · have := ih.2
        rw [if_neg q] at this
        rw [if_pos (by omega)]
        exact this
    · have h1 : O ++ nots (n + 1 + 1) = O ++ nots n ++ [10] ++ [10] := by
        show O ++ (nots n ++ [10] ++ [10]) = _
        simp only [List.append_assoc]
      rw [h1]
      have := ih.1
      by_cases q : n % 2 = 1
      · rw [if_pos q] at this
        rw [if_neg (by omega)]
        exact EQ_nn this
      · rw [if_neg q] at this
        rw [if_pos (by omega)]
        exact EQ_nn this
theorem EQ_nots1 {pp : Int} {C O : List Int} {g : Int} (h : EQ pp C O g) {n : Nat} (q : n % 2 = 1) : EQ pp (C ++ [1]) (O ++ nots n) g := by
  have := (EQ_nots h n).1
  rw [if_pos q] at this
  exact this
theorem EQ_nots0 {pp : Int} {C O : List Int} {g : Int} (h : EQ pp C O g) {n : Nat} (q : n % 2 ≠ 1) : EQ pp C (O ++ nots n) g := by
  have := (EQ_nots h n).1
  rw [if_neg q] at this
  exact this
/-! ATOMS -/
theorem stC_0 {e : Ev} {x : Int} {st : List Bool} (h : x % 8 = 0) : stC e x st = rwv e (x / 8) :: st := if_pos h
theorem stC_5 {e : Ev} {x : Int} {st : List Bool} (h : x % 8 = 5) : stC e x st = decide (e (x / 8 / 8) = e (x / 8 % 8)) :: st := (if_neg (by omega)).trans (if_pos h)
theorem stC_6 {e : Ev} {x : Int} {st : List Bool} (h : x % 8 = 6) : stC e x st = decide (x / 8 % 256 / pw (cnt e (x / 8 / 256)) % 2 = 1) :: st := (if_neg (by omega)).trans ((if_neg (by omega)).trans (if_pos h))
theorem EQ_kind {pp p k : Int} (hp : p < pp) (h0 : 0 ≤ p) (h6 : p ≤ 6) (k0 : 0 ≤ k) (k4 : k ≤ 4) : EQ pp [8 * (p * 5 + k)] [1 + 16 * p + 2048 * k] 1 := by
  refine EQ_atom ⟨fun q => by omega, fun q => by omega, fun q => by omega, fun q => by omega⟩ (fun e => decide (e p = k)) (fun e st _ => ?_) (fun e st _ => ?_) (Or.inl (by omega))
  · rw [stC_0 (by omega), show 8 * (p * 5 + k) / 8 = p * 5 + k by omega]
    unfold rwv
    rw [if_pos (by omega), show (p * 5 + k) / 5 = p by omega, show (p * 5 + k) % 5 = k by omega]
  · unfold stR
    rw [if_neg (by omega), if_neg (by omega), if_neg (by omega), if_neg (by omega), if_pos (by omega), show (1 + 16 * p + 2048 * k) / 16 % 128 = p by omega, show (1 + 16 * p + 2048 * k) / 2048 = k by omega]
theorem EQ_as {pp p k : Int} (hp : p < pp) (hk : k < pp) (h0 : 0 ≤ p) (h6 : p ≤ 6) (k0 : 0 ≤ k) (k4 : k ≤ 6) : EQ pp [5 + 8 * (p * 8 + k)] [2 + 16 * p + 2048 * k] 1 := by
  refine EQ_atom ⟨fun q => by omega, fun q => by omega, fun q => by omega, fun q => by omega⟩ (fun e => decide (e p = e k)) (fun e st _ => ?_) (fun e st _ => ?_) (Or.inr (Or.inl (by omega)))
  · rw [stC_5 (by omega), show (5 + 8 * (p * 8 + k)) / 8 / 8 = p by omega, show (5 + 8 * (p * 8 + k)) / 8 % 8 = k by omega]
  · unfold stR
    rw [if_neg (by omega), if_neg (by omega), if_neg (by omega), if_neg (by omega), if_neg (by omega), if_pos (by omega), show (2 + 16 * p + 2048 * k) / 16 % 128 = p by omega, show (2 + 16 * p + 2048 * k) / 2048 = k by omega]
theorem EQ_road {pp k : Int} (k0 : 0 ≤ k) (k3 : k ≤ 3) : EQ pp [8 * (35 + k)] [3 + 16 * k] 1 := by
  refine EQ_atom ⟨fun q => by omega, fun q => by omega, fun q => by omega, fun q => by omega⟩ (fun e => decide (e 10 = k)) (fun e st _ => ?_) (fun e st _ => ?_) (Or.inl (by omega))
  · rw [stC_0 (by omega), show 8 * (35 + k) / 8 = 35 + k by omega]
    unfold rwv
    rw [if_neg (by omega), if_pos (by omega), show 35 + k - 35 = k by omega]
  · unfold stR
    rw [if_neg (by omega), if_neg (by omega), if_neg (by omega), if_neg (by omega), if_neg (by omega), if_neg (by omega), if_pos (by omega), show (3 + 16 * k) / 16 % 128 = k by omega]
theorem EQ_day {pp k : Int} (k0 : 0 ≤ k) (k3 : k ≤ 6) : EQ pp [8 * (39 + k)] [4 + 16 * k] 1 := by
  refine EQ_atom ⟨fun q => by omega, fun q => by omega, fun q => by omega, fun q => by omega⟩ (fun e => decide (e 11 = k)) (fun e st _ => ?_) (fun e st _ => ?_) (Or.inl (by omega))
  · rw [stC_0 (by omega), show 8 * (39 + k) / 8 = 39 + k by omega]
    unfold rwv
    rw [if_neg (by omega), if_neg (by omega), if_pos (by omega), show 39 + k - 39 = k by omega]
  · unfold stR
    rw [if_neg (by omega), if_neg (by omega), if_neg (by omega), if_neg (by omega), if_neg (by omega), if_neg (by omega), if_neg (by omega), if_pos (by omega), show (4 + 16 * k) / 16 % 128 = k by omega]
theorem EQ_word {pp k : Int} (k0 : 0 ≤ k) (k3 : k ≤ 1) : EQ pp [8 * (46 + k)] [8 + 16 * k] 1 := by
  refine EQ_atom ⟨fun q => by omega, fun q => by omega, fun q => by omega, fun q => by omega⟩ (fun e => decide (e 12 = k)) (fun e st _ => ?_) (fun e st _ => ?_) (Or.inl (by omega))
  · rw [stC_0 (by omega), show 8 * (46 + k) / 8 = 46 + k by omega]
    unfold rwv
    rw [if_neg (by omega), if_neg (by omega), if_neg (by omega), if_pos (by omega), show 46 + k - 46 = k by omega]
  · unfold stR
    rw [if_neg (by omega), if_neg (by omega), if_neg (by omega), if_neg (by omega), if_neg (by omega), if_neg (by omega), if_neg (by omega), if_neg (by omega), if_neg (by omega), if_neg (by omega), if_neg (by omega), if_pos (by omega), show (8 + 16 * k) / 16 % 128 = k by omega]
theorem stR_9 {e : Ev} {k : Int} {st : List Bool} (k0 : 0 ≤ k) (k9 : k ≤ 99) : stR e (9 + 16 * k) st = decide (e (30 + k) = 1) :: st := by
  unfold stR
  rw [if_neg (by omega), if_neg (by omega), if_neg (by omega), if_neg (by omega), if_neg (by omega), if_neg (by omega), if_neg (by omega), if_neg (by omega), if_neg (by omega), if_neg (by omega), if_neg (by omega), if_neg (by omega), show (9 + 16 * k) / 16 % 128 = k by omega]
theorem EQ_told {pp k : Int} (k0 : 0 ≤ k) (k3 : k ≤ 14) : EQ pp [8 * (102 + k)] [9 + 16 * k] 1 := by
  refine EQ_atom ⟨fun q => by omega, fun q => by omega, fun q => by omega, fun q => by omega⟩ (fun e => decide (e (30 + k) = 1)) (fun e st _ => ?_) (fun e st _ => stR_9 k0 (by omega)) (Or.inl (by omega))
  rw [stC_0 (by omega), show 8 * (102 + k) / 8 = 102 + k by omega]
  unfold rwv
  rw [if_neg (by omega), if_neg (by omega), if_neg (by omega), if_neg (by omega), if_pos (by omega), show 102 + k - 102 = k by omega]
theorem EQ_told9 {pp k : Int} (k0 : 15 ≤ k) (k9 : k ≤ 99) : EQ pp [8 * 117] [9 + 16 * k] 1 := by
  refine EQ_atom ⟨fun q => by omega, fun q => by omega, fun q => by omega, fun q => by omega⟩ (fun _ => false) (fun e st _ => ?_) (fun e st h => ?_) (Or.inl (by decide))
  · rw [stC_0 (by decide)]
    unfold rwv
    rw [if_neg (by decide), if_neg (by decide), if_neg (by decide), if_neg (by decide), if_neg (by decide)]
    rfl
  · rw [stR_9 (by omega) k9, decide_eq_false (h.2.2 k k0)]
theorem cnt_b {e : Ev} (h : OKE e) (k : Int) : 0 ≤ cnt e k ∧ cnt e k ≤ 7 := by
  have h1 := cnK_b e k (e 13).toNat
  have h2 := h.1
  have h3 := h.2.1
  unfold cnt
  omega
/-- which counts a bit stands for -/
def mkb (s n : Int) : Int := if s = 60 then pw (if n ≤ 8 then n else 8) - 1 else if s = 62 then (256 - pw ((if n ≤ 8 then n else 8) + 1)) % 256 else pw (if n ≤ 8 then n else 8) % 256
theorem mkb_ok : ∀ n : Nat, n ≤ 9 → ∀ t : Nat, t ≤ 7 → (mkb 60 n % 256 / pw t % 2 = 1 ↔ (t : Int) < n) ∧ (mkb 61 n % 256 / pw t % 2 = 1 ↔ (t : Int) = n) ∧ (mkb 62 n % 256 / pw t % 2 = 1 ↔ (t : Int) > n) := by decide +kernel
theorem mkb_9 {s n : Int} (h : 9 ≤ n) : mkb s n = mkb s 9 := by
  unfold mkb
  by_cases q : n = 9
  · rw [q]
  · rw [if_neg (by omega : ¬ n ≤ 8), if_neg (by decide : ¬ (9 : Int) ≤ 8)]
theorem mkb_t {n t : Int} (h0 : 0 ≤ n) (t0 : 0 ≤ t) (t7 : t ≤ 7) : (mkb 60 n % 256 / pw t % 2 = 1 ↔ t < n) ∧ (mkb 61 n % 256 / pw t % 2 = 1 ↔ t = n) ∧ (mkb 62 n % 256 / pw t % 2 = 1 ↔ t > n) := by
  obtain ⟨j, rfl⟩ : ∃ j : Nat, t = j := ⟨t.toNat, by omega⟩
  by_cases q : n ≤ 9
  · obtain ⟨m, rfl⟩ : ∃ m : Nat, n = m := ⟨n.toNat, by omega⟩
    exact mkb_ok m (by omega) j (by omega)
  · have h := mkb_ok 9 (by decide) j (by omega)
    rw [mkb_9 (s := 60) (n := n) (by omega), mkb_9 (s := 61) (n := n) (by omega), mkb_9 (s := 62) (n := n) (by omega)]
    refine ⟨h.1.trans ?_, h.2.1.trans ?_, h.2.2.trans ?_⟩ <;> omega
theorem EQ_many {pp s k n c a : Int} (k0 : 0 ≤ k) (k4 : k ≤ 4) (n0 : 0 ≤ n) (n9 : n ≤ 99) (hs : (s = 60 ∧ a = 5) ∨ (s = 61 ∧ a = 6) ∨ (s = 62 ∧ a = 7)) (hc : c = mkb s n % 256) : EQ pp [6 + 8 * (k * 256 + c)] [a + 16 * k + 2048 * n] 1 := by
  have hc0 : 0 ≤ c ∧ c < 256 := by omega
  have hS : ∀ e st, stC e (6 + 8 * (k * 256 + c)) st = decide (mkb s n % 256 / pw (cnt e k) % 2 = 1) :: st := fun e st => by
    rw [stC_6 (by omega), show (6 + 8 * (k * 256 + c)) / 8 % 256 = c by omega, show (6 + 8 * (k * 256 + c)) / 8 / 256 = k by omega, hc]
  refine EQ_atom ⟨fun q => by omega, fun q => by omega, fun q => by omega, fun q => by omega⟩ (fun e => decide (mkb s n % 256 / pw (cnt e k) % 2 = 1)) (fun e st _ => hS e st) (fun e st h => ?_) (Or.inr (Or.inr (by omega)))
  have hb := cnt_b h k
  have hm := mkb_t n0 hb.1 hb.2
  unfold stR
  rw [if_neg (by omega), if_neg (by omega), if_neg (by omega), if_neg (by omega), if_neg (by omega), if_neg (by omega), if_neg (by omega), if_neg (by omega)]
  have e1 : (a + 16 * k + 2048 * n) / 16 % 128 = k := by omega
  have e2 : (a + 16 * k + 2048 * n) / 2048 = n := by omega
  rw [e1, e2]
  rcases hs with ⟨rfl, rfl⟩ | ⟨rfl, rfl⟩ | ⟨rfl, rfl⟩
  · rw [if_pos (by omega)]
    exact congrArg (· :: st) (decide_eq_decide.mpr hm.1.symm)
  · rw [if_neg (by omega), if_pos (by omega)]
    exact congrArg (· :: st) (decide_eq_decide.mpr hm.2.1.symm)
  · rw [if_neg (by omega), if_neg (by omega), if_pos (by omega)]
    exact congrArg (· :: st) (decide_eq_decide.mpr hm.2.2.symm)

/-! ===== the reader of an EXPR, with what it puts down ===== -/
/-- what is put down, and what waits (the last first) -/
abbrev Og : Type := List Int × List Int
def strw (w : Int) : Int := if w % 16 = 14 then 0 else if w % 16 = 12 then 1 else if w % 16 = 11 then 2 else 3
def drp (l : Int) : List Int → List Int → Og
  | [], o => (o, [])
  | w :: ws, o => if w % 16 ≠ 14 ∧ l ≤ strw w then drp l ws (o ++ [w % 16]) else (o, w :: ws)
def actS (T : Int → Int) (n s : Int) : Int := if sgI T n s 60 = 1 then 5 else if sgI T n s 61 = 1 then 6 else 7
def emM (T : Int → Int) (n v : Int) (O : Og) : Og := (O.1 ++ [actS T n (nx T n v) + 16 * kdI T n v + 2048 * vlI T n (nx T n (nx T n v))], O.2)
def emA (T : Int → Int) (n s : Int) (O : Og) : Og :=
  if kw T n s = 18 then (O.1 ++ [3 + 16 * vlI T n (nx T n s)], O.2)
  else if kw T n s = 8 then (O.1 ++ [4 + 16 * vlI T n (nx T n s)], O.2)
  else if kw T n s = 20 then (O.1 ++ [8 + 16 * vlI T n (nx T n s)], O.2)
  else if kw T n s = 21 then (O.1 ++ [9 + 16 * vlI T n (nx T n s)], O.2)
  else emM T n (nx T n s) O
def emN (T : Int → Int) (n v a : Int) (O : Og) : Og :=
  if kw T n v = 17 then (O.1, (14 + 16 * (a + 1)) :: O.2)
  else if kw T n v = 15 then (O.1 ++ [1 + 16 * a + 2048 * kdI T n (nx T n v)], O.2)
  else (O.1 ++ [2 + 16 * a + 2048 * (T (nx T n v) - 97)], O.2)
def emO (T : Int → Int) (n s : Int) (O : Og) : Og :=
  if kw T n s = 14 then (O.1, 10 :: O.2) else if sgI T n s 40 = 1 then (O.1, 14 :: O.2) else if nmI T n s = 1 then emN T n (nx T n s) (T s - 97) O else emA T n s O
def popO (q : Og) : Og := match q.2 with
  | [] => q
  | x :: ws => (if 14 < x then q.1 ++ [13 + 16 * (x / 16 - 1)] else q.1, ws)
def emX (T : Int → Int) (n d s : Int) (O : Og) : Og :=
  if kw T n s = 12 then ((drp 2 O.2 O.1).1, 11 :: (drp 2 O.2 O.1).2) else if kw T n s = 13 then ((drp 1 O.2 O.1).1, 12 :: (drp 1 O.2 O.1).2) else if d ≤ 1 then ((drp 1 O.2 O.1).1 ++ [0], (drp 1 O.2 O.1).2) else popO (drp 1 O.2 O.1)
def em (T : Int → Int) (n : Int) (c : Cg) (O : Og) : Og := if c.1 = 0 then O else if c.1 = 1 then emO T n c.2.2.1 O else emX T n c.2.1 c.2.2.1 O
def st2 (T : Int → Int) (n pp : Int) (x : Cg × Og) : Cg × Og := (st1 T n pp x.1, em T n x.1 x.2)
def it2 (f : Cg × Og → Cg × Og) : Nat → Cg × Og → Cg × Og
  | 0, c => c
  | k + 1, c => f (it2 f k c)
def RQ (T : Int → Int) (n pp : Int) (x x2 : Cg × Og) : Prop := ∃ k : Nat, it2 (st2 T n pp) k x = x2 ∧ ∀ j : Nat, j < k → (it2 (st2 T n pp) j x).1.1 ≤ 2
theorem RQ.rf {T : Int → Int} {n pp : Int} (x : Cg × Og) : RQ T n pp x x := ⟨0, rfl, fun j hj => absurd hj (Nat.not_lt_zero _)⟩
theorem RQ.snoc {T : Int → Int} {n pp : Int} {x : Cg × Og} {c1 c2 : Cg} {O1 O2 : Og} (h : RQ T n pp x (c1, O1)) (h1 : c1.1 ≤ 2) (h2 : st1 T n pp c1 = c2) (h3 : em T n c1 O1 = O2) : RQ T n pp x (c2, O2) := by
  obtain ⟨k, e, hk⟩ := h
  refine ⟨k + 1, ?_, fun j hj => ?_⟩
  · show st2 T n pp (it2 (st2 T n pp) k x) = (c2, O2)
    rw [e]
    show (st1 T n pp c1, em T n c1 O1) = (c2, O2)
    rw [h2, h3]
  · by_cases q : j = k
    · rw [q, e]
      exact h1
    · exact hk j (by omega)
theorem RQ.one {T : Int → Int} {n pp : Int} {x x1 x2 : Cg × Og} (h1 : RQ T n pp x x1) (h2 : RQ T n pp x x2) (q1 : 3 ≤ x1.1.1) (q2 : 3 ≤ x2.1.1) : x1 = x2 := by
  obtain ⟨k, e, hk⟩ := h1
  obtain ⟨j, e2, hj⟩ := h2
  rcases Nat.lt_trichotomy k j with q | q | q
  · have := hj k q
    rw [e] at this
    omega
  · rw [← e, ← e2, q]
  · have := hk j q
    rw [e2] at this
    omega
theorem it2_1 (T : Int → Int) (n pp : Int) (x : Cg × Og) : ∀ k : Nat, (it2 (st2 T n pp) k x).1 = itn (st1 T n pp) k x.1 := by
  intro k
  induction k with
  | zero => rfl
  | succ k ih =>
    show st1 T n pp (it2 (st2 T n pp) k x).1 = st1 T n pp (itn (st1 T n pp) k x.1)
    rw [ih]
/-- what it puts down left out -/
theorem RQ.r {T : Int → Int} {n pp : Int} {c c2 : Cg} {z O : Og} (h : RQ T n pp (c, z) (c2, O)) : Rch T n pp c c2 := by
  obtain ⟨k, e, hk⟩ := h
  refine ⟨k, ?_, fun j hj => ?_⟩
  · rw [← it2_1 T n pp (c, z) k, e]
  · rw [← it2_1 T n pp (c, z) j]
    exact hk j hj
/-- nothing of that strength stands last -/
def fix (l : Int) (w : List Int) : Prop := ∀ o, drp l w o = (o, w)
theorem fix_n (l : Int) : fix l [] := fun _ => rfl
theorem fix_c {l w : Int} {ws : List Int} (h : w % 16 = 14 ∨ strw w < l) : fix l (w :: ws) := fun o => if_neg (by omega)
theorem strw_b (w : Int) : 0 ≤ strw w ∧ strw w ≤ 3 := by
  unfold strw
  split
  · omega
  · split
    · omega
    · split <;> omega
theorem fix_4 (w : List Int) : fix 4 w := by
  cases w with
  | nil => exact fix_n 4
  | cons x ws => exact fix_c (Or.inr (by have := strw_b x; omega))
theorem fix_m {l l2 : Int} {w : List Int} (h : fix l w) (hl : l ≤ l2) : fix l2 w := by
  cases w with
  | nil => exact fix_n l2
  | cons x ws =>
    by_cases q : x % 16 = 14 ∨ strw x < l2
    · exact fix_c q
    · exfalso
      have h1 := h []
      have h2 : drp l (x :: ws) [] = drp l ws ([] ++ [x % 16]) := if_pos ⟨by omega, by omega⟩
      rw [h2] at h1
      have h3 : ∀ (u o : List Int), (drp l u o).2.length ≤ u.length := by
        intro u
        induction u with
        | nil => intro o; exact Nat.le_refl _
        | cons y u ih =>
          intro o
          show (if y % 16 ≠ 14 ∧ l ≤ strw y then drp l u (o ++ [y % 16]) else (o, y :: u)).2.length ≤ (y :: u).length
          split
          · exact Nat.le_succ_of_le (ih _)
          · exact Nat.le_refl _
      have h4 := h3 ws ([] ++ [x % 16])
      rw [h1] at h4
      have h5 : (x :: ws).length = ws.length + 1 := rfl
      have h6 : (([] : List Int), x :: ws).2.length = (x :: ws).length := rfl
      omega
theorem drp_p {l w : Int} {ws o : List Int} (h : w % 16 ≠ 14) (h2 : l ≤ strw w) : drp l (w :: ws) o = drp l ws (o ++ [w % 16]) := if_pos ⟨h, h2⟩
/-- first the stronger ones, then the others -/
theorem drp_drp {l m : Int} (hl : m ≤ l) : ∀ (w o : List Int), drp m (drp l w o).2 (drp l w o).1 = drp m w o := by
  intro w
  induction w with
  | nil => intro o; rfl
  | cons x ws ih =>
    intro o
    by_cases q : x % 16 ≠ 14 ∧ l ≤ strw x
    · rw [drp_p q.1 q.2, drp_p q.1 (by omega)]
      exact ih _
    · have e : drp l (x :: ws) o = (o, x :: ws) := if_neg q
      rw [e]
theorem drp_app (l : Int) : ∀ (w o a : List Int), drp l w (a ++ o) = (a ++ (drp l w o).1, (drp l w o).2) := by
  intro w
  induction w with
  | nil => intro o a; rfl
  | cons x ws ih =>
    intro o a
    by_cases q : x % 16 ≠ 14 ∧ l ≤ strw x
    · rw [drp_p q.1 q.2, drp_p q.1 q.2, List.append_assoc]
      exact ih _ _
    · have e : ∀ u, drp l (x :: ws) u = (u, x :: ws) := fun u => if_neg q
      rw [e, e]
/-- behind k 'not' -/
def ntw : Nat → List Int → List Int
  | 0, w => w
  | k + 1, w => 10 :: ntw k w
theorem drp_nt {l : Int} (hl : l ≤ 3) {w : List Int} (hw : fix l w) : ∀ (k : Nat) (o : List Int), drp l (ntw k w) o = (o ++ nots k, w) := by
  intro k
  induction k with
  | zero => intro o; show drp l w o = (o ++ [], w); rw [List.append_nil]; exact hw o
  | succ k ih =>
    intro o
    show drp l (10 :: ntw k w) o = _
    rw [drp_p (by decide) (by show l ≤ strw 10; rw [show strw 10 = 3 by decide]; exact hl), ih]
    have e : ∀ j : Nat, [(10 : Int) % 16] ++ nots j = nots (j + 1) := by
      intro j
      induction j with
      | zero => rfl
      | succ j ih2 => show [(10 : Int) % 16] ++ (nots j ++ [10]) = nots (j + 1) ++ [10]; rw [← ih2, List.append_assoc]
    rw [List.append_assoc, e k]
section XE
variable {T : Int → Int} {n pp d s k v : Int} {c0 : Cg} {z0 : Og} {o w : List Int} {O : Og}
theorem y_0 (h : RQ T n pp (c0, z0) ((0, d, s, 0), O)) : RQ T n pp (c0, z0) (stE T n d s, O) := h.snoc (show (0 : Int) ≤ 2 by decide) rfl rfl
theorem y_1 (h : RQ T n pp (c0, z0) ((1, d, s, k), O)) : RQ T n pp (c0, z0) (stO T n pp d s k, emO T n s O) := h.snoc (show (1 : Int) ≤ 2 by decide) rfl rfl
theorem y_2 (h : RQ T n pp (c0, z0) ((2, d, s, 0), O)) : RQ T n pp (c0, z0) (stX T n d s, emX T n d s O) := h.snoc (show (2 : Int) ≤ 2 by decide) rfl rfl
theorem yE_b (h : RQ T n pp (c0, z0) ((0, d, s, 0), O)) (q : cbI T n s = 1) (hd : d ≠ 6) {d2 : Int} (e : d2 = d + 1) : RQ T n pp (c0, z0) ((1, d2, s, 0), O) := by
  have h1 := y_0 h
  have h2 : stE T n d s = (1, d + 1, s, 0) := by
    unfold stE
    rw [if_pos q, if_neg hd]
  rw [h2, ← e] at h1
  exact h1
theorem yO_n (h : RQ T n pp (c0, z0) ((1, d, s, k), (o, w))) (q : kw T n s = 14) (hk : k ≠ 6) {k2 : Int} (e : v = nx T n s) (e2 : k2 = k + 1) : RQ T n pp (c0, z0) ((1, d, v, k2), (o, 10 :: w)) := by
  have h1 := y_1 h
  have h2 : stO T n pp d s k = (1, d, nx T n s, k + 1) := by
    unfold stO
    rw [if_pos q, if_neg hk]
  have h3 : emO T n s (o, w) = (o, 10 :: w) := if_pos q
  rw [h2, h3, ← e, ← e2] at h1
  exact h1
theorem yO_p (h : RQ T n pp (c0, z0) ((1, d, s, k), (o, w))) (q : sgI T n s 40 = 1) (e : v = nx T n s) : RQ T n pp (c0, z0) ((0, d, v, 0), (o, 14 :: w)) := by
  have h1 := y_1 h
  have h4 := sg_kw q
  have h2 : stO T n pp d s k = (0, d, nx T n s, 0) := by
    unfold stO
    rw [if_neg (by omega), if_pos q]
  have h3 : emO T n s (o, w) = (o, 14 :: w) := by
    unfold emO
    rw [if_neg (by omega), if_pos q]
  rw [h2, h3, ← e] at h1
  exact h1
theorem yN1 (h : RQ T n pp (c0, z0) ((1, d, s, k), O)) (q : nmI T n s = 1) (hn : naE T n pp s = 0) (e : v = nx T n s) : RQ T n pp (c0, z0) (stN T n pp d v, emN T n v (T s - 97) O) := by
  have h1 := y_1 h
  have h4 := nm_kw q
  have h5 := nm_sg q 40
  have h2 : stO T n pp d s k = stN T n pp d (nx T n s) := by
    unfold stO
    rw [if_neg (by omega), if_neg h5, if_pos q, if_pos hn]
  have h3 : emO T n s O = emN T n (nx T n s) (T s - 97) O := by
    unfold emO
    rw [if_neg (by omega), if_neg h5, if_pos q]
  rw [h2, h3, ← e] at h1
  exact h1
theorem yN_s {a v2 v3 : Int} (h : RQ T n pp (c0, z0) (stN T n pp d v, emN T n v a (o, w))) (q : kw T n v = 17) (e : v2 = nx T n v) (g : sgI T n v2 40 = 1) (e3 : v3 = nx T n v2) : RQ T n pp (c0, z0) ((0, d, v3, 0), (o, (14 + 16 * (a + 1)) :: w)) := by
  subst e
  have h3 : emN T n v a (o, w) = (o, (14 + 16 * (a + 1)) :: w) := if_pos q
  rw [stN_s q g, h3, ← e3] at h
  exact h
theorem yN_i {a v2 v3 : Int} (h : RQ T n pp (c0, z0) (stN T n pp d v, emN T n v a (o, w))) (q : kw T n v = 15) (e : v2 = nx T n v) (hk : kdE T n v2 = 0) (e3 : v3 = nx T n v2) : RQ T n pp (c0, z0) ((2, d, v3, 0), (o ++ [1 + 16 * a + 2048 * kdI T n v2], w)) := by
  subst e
  have h3 : emN T n v a (o, w) = (o ++ [1 + 16 * a + 2048 * kdI T n (nx T n v)], w) := by
    unfold emN
    rw [if_neg (by omega), if_pos q]
  rw [stN_i q hk, h3, ← e3] at h
  exact h
theorem yN_a {a v2 v3 : Int} (h : RQ T n pp (c0, z0) (stN T n pp d v, emN T n v a (o, w))) (q : kw T n v = 16) (e : v2 = nx T n v) (hk : naE T n pp v2 = 0) (e3 : v3 = nx T n v2) : RQ T n pp (c0, z0) ((2, d, v3, 0), (o ++ [2 + 16 * a + 2048 * (T v2 - 97)], w)) := by
  subst e
  have h3 : emN T n v a (o, w) = (o ++ [2 + 16 * a + 2048 * (T (nx T n v) - 97)], w) := by
    unfold emN
    rw [if_neg (by omega), if_neg (by omega)]
  rw [stN_a q hk, h3, ← e3] at h
  exact h
/-- what an ATOM with one NUMBER puts down -/
def acN (m : Int) : Int := if m = 3 then 3 else if m = 6 then 4 else if m = 1 then 8 else 9
theorem yA {m v2 : Int} (h : RQ T n pp (c0, z0) ((1, d, s, k), (o, w))) (q1 : kw T n s ≠ 14) (q2 : sgI T n s 40 ≠ 1) (q3 : nmI T n s ≠ 1) (q : (kw T n s = 18 ∧ m = 3) ∨ (kw T n s = 8 ∧ m = 6) ∨ (kw T n s = 20 ∧ m = 1) ∨ (kw T n s = 21 ∧ m = 99)) (e : v = nx T n s) (hn : nuE T n v 0 m = 0) (e2 : v2 = nx T n v) : RQ T n pp (c0, z0) ((2, d, v2, 0), (o ++ [acN m + 16 * vlI T n v], w)) := by
  subst e
  have h1 := y_1 h
  have h2 : stO T n pp d s k = stA T n d s := by
    unfold stO
    rw [if_neg q1, if_neg q2, if_neg q3]
  have h3 : emO T n s (o, w) = emA T n s (o, w) := by
    unfold emO
    rw [if_neg q1, if_neg q2, if_neg q3]
  have h4 : emA T n s (o, w) = (o ++ [acN m + 16 * vlI T n (nx T n s)], w) := by
    unfold emA
    rcases q with ⟨q, rfl⟩ | ⟨q, rfl⟩ | ⟨q, rfl⟩ | ⟨q, rfl⟩
    · rw [if_pos q]; rfl
    · rw [if_neg (by omega), if_pos q]; rfl
    · rw [if_neg (by omega), if_neg (by omega), if_pos q]; rfl
    · rw [if_neg (by omega), if_neg (by omega), if_neg (by omega), if_pos q]; rfl
  rw [h2, h3, stA_0 q hn, h4, ← e2] at h1
  exact h1
theorem yM {v2 v3 v4 : Int} (h : RQ T n pp (c0, z0) ((1, d, s, k), (o, w))) (q2 : sgI T n s 40 ≠ 1) (q3 : nmI T n s ≠ 1) (q : kw T n s = 19) (e : v = nx T n s) (hk : kdE T n v = 0) (e2 : v2 = nx T n v) (h2 : sgI T n v2 60 = 1 ∨ sgI T n v2 61 = 1 ∨ sgI T n v2 62 = 1) (e3 : v3 = nx T n v2) (hn : nuE T n v3 0 99 = 0) (e4 : v4 = nx T n v3) : RQ T n pp (c0, z0) ((2, d, v4, 0), (o ++ [actS T n v2 + 16 * kdI T n v + 2048 * vlI T n v3], w)) := by
  subst e
  subst e2
  subst e3
  have h1 := y_1 h
  have h5 : stO T n pp d s k = stA T n d s := by
    unfold stO
    rw [if_neg (by omega), if_neg q2, if_neg q3]
  have h3 : emO T n s (o, w) = emA T n s (o, w) := by
    unfold emO
    rw [if_neg (by omega), if_neg q2, if_neg q3]
  have h4 : emA T n s (o, w) = emM T n (nx T n s) (o, w) := by
    unfold emA
    rw [if_neg (by omega), if_neg (by omega), if_neg (by omega), if_neg (by omega)]
  rw [h5, h3, stA_m q, stM_0 hk h2 hn, h4, ← e4] at h1
  exact h1
theorem yX_and (h : RQ T n pp (c0, z0) ((2, d, s, 0), O)) (q : kw T n s = 12) (e : v = nx T n s) (he : drp 2 O.2 O.1 = (o, w)) : RQ T n pp (c0, z0) ((1, d, v, 0), (o, 11 :: w)) := by
  have h1 := y_2 h
  have h2 : stX T n d s = (1, d, nx T n s, 0) := if_pos (Or.inl q)
  have h3 : emX T n d s O = (o, 11 :: w) := (if_pos q).trans (by rw [he])
  rw [h2, h3, ← e] at h1
  exact h1
theorem yX_or (h : RQ T n pp (c0, z0) ((2, d, s, 0), O)) (q : kw T n s = 13) (e : v = nx T n s) (he : drp 1 O.2 O.1 = (o, w)) : RQ T n pp (c0, z0) ((1, d, v, 0), (o, 12 :: w)) := by
  have h1 := y_2 h
  have h2 : stX T n d s = (1, d, nx T n s, 0) := if_pos (Or.inr q)
  have h3 : emX T n d s O = (o, 12 :: w) := by
    unfold emX
    rw [if_neg (by omega), if_pos q, he]
  rw [h2, h3, ← e] at h1
  exact h1
theorem yX_e (h : RQ T n pp (c0, z0) ((2, d, s, 0), O)) (q : ¬ (kw T n s = 12 ∨ kw T n s = 13)) (hd : d ≤ 1) (e : v = s) (he : drp 1 O.2 O.1 = (o, w)) : RQ T n pp (c0, z0) ((4, 0, v, 0), (o ++ [0], w)) := by
  have h1 := y_2 h
  have h2 : stX T n d s = (4, 0, s, 0) := by
    unfold stX
    rw [if_neg q, if_pos hd]
  have h3 : emX T n d s O = (o ++ [0], w) := by
    unfold emX
    rw [if_neg (by omega), if_neg (by omega), if_pos hd, he]
  rw [h2, h3, ← e] at h1
  exact h1
theorem yX_c {d2 b : Int} (h : RQ T n pp (c0, z0) ((2, d, s, 0), O)) (hd : ¬ d ≤ 1) (q : sgI T n s 41 = 1) (e : v = nx T n s) (e2 : d2 = d - 1) (he : drp 1 O.2 O.1 = (o, b :: w)) : RQ T n pp (c0, z0) ((2, d2, v, 0), (if 14 < b then o ++ [13 + 16 * (b / 16 - 1)] else o, w)) := by
  have h1 := y_2 h
  have h4 := sg_kw q
  have h2 : stX T n d s = (2, d - 1, nx T n s, 0) := by
    unfold stX
    rw [if_neg (by omega), if_neg hd, if_pos q]
  have h3 : emX T n d s O = (if 14 < b then o ++ [13 + 16 * (b / 16 - 1)] else o, w) := by
    unfold emX
    rw [if_neg (by omega), if_neg (by omega), if_neg hd, he]
    rfl
  rw [h2, h3, ← e, ← e2] at h1
  exact h1
end XE
