/-! ===== the law, evaluated: a fresh object and one call ===== -/
def B0 : eB := fun n => cond (Nat.ble n 1) (0, 0) (0, 4294967295)
noncomputable def g0 : eG := (0, [(0, .inr (.inr 4097))], [], (0, 0, 0, eall 10 (0, 0, fun _ => .inl 0)))
noncomputable def oL : Option eG := e_to opT (xget (xT eI 11) 8 pgs 0) (e_eval opT pgs ml B0 10) B0 13 g0
def Bc (L : Nat) (k : Nat × Nat) (u v : Nat × Nat) : eB := fun n => cond (Nat.beq n 0) (L, 1) (cond (Nat.beq n 1) k (cond (Nat.beq n 4294967297) u (cond (Nat.beq n 4294967298) v (0, 4294967295))))
def ivs : List Nat → List (Nat × Nat)
  | [] => []
  | c :: r => match r with
    | [] => [(c, 4294967295)]
    | c2 :: _ => (c, c2 - 1) :: ivs r
def zc (l : List Nat) : List Nat := 0 :: l.map (fun i => 2147483648 + i)
def cu1 (k : Nat) : List Nat := match k with
  | 1 => zc [0, 1]
  | 2 => zc [0, 1]
  | 4 => zc [0, 1, 2, 3, 4, 5, 6, 7, 8]
  | 5 => zc [0]
  | 6 => zc [0]
  | 7 => zc [0]
  | 9 => zc [0, 1, 2]
  | 10 => zc [0, 1]
  | 11 => zc [0, 1, 2, 3, 4]
  | 12 => zc [1, 2, 3, 4]
  | 13 => [0, 2147483647, 2147483648]
  | 15 => zc [0, 1, 2, 3, 4]
  | 17 => zc [0]
  | 18 => zc [0]
  | 19 => zc [0, 1, 2, 3, 4]
  | 21 => zc [0, 1]
  | 22 => zc [0]
  | 23 => zc [0, 1, 2, 3, 4]
  | 24 => zc [0]
  | _ => [0]
def cu2 (k : Nat) : List Nat := match k with
  | 10 => zc [0, 8, 16, 17, 18, 19]
  | 13 => zc [0]
  | _ => [0]
noncomputable def rL (B : eB) (o : Option eG) : Option eO := match o with
  | some g => e_run opT (xget (xT eI 11) 8 pgs 0) (e_eval opT pgs ml B 10) B 5000 g
  | none => none
def ckO (o : Option eO) : Bool := match o with
  | some (1, .inl 1, h) => Nat.ble (e_cn h) 600002 && Nat.ble (e_sl h) 7302232
  | _ => false
noncomputable def ckK (k : Nat) : Bool := (ivs (cu1 k)).all fun u => (ivs (cu2 k)).all fun v => ckO (rL (Bc 6 (k, 1) u v) oL)
theorem ev_s : (List.range 6).all (fun L => ckO (rL (Bc L (0, 0) (0, 4294967295) (0, 4294967295)) oL)) = true := by decide +kernel
theorem ck_0 : ckK 0 = true := by decide +kernel
theorem ck_1 : ckK 1 = true := by decide +kernel
theorem ck_2 : ckK 2 = true := by decide +kernel
theorem ck_3 : ckK 3 = true := by decide +kernel
theorem ck_4 : ckK 4 = true := by decide +kernel
theorem ck_5 : ckK 5 = true := by decide +kernel
theorem ck_6 : ckK 6 = true := by decide +kernel
theorem ck_7 : ckK 7 = true := by decide +kernel
theorem ck_8 : ckK 8 = true := by decide +kernel
theorem ck_9 : ckK 9 = true := by decide +kernel
theorem ck_10 : ckK 10 = true := by decide +kernel
theorem ck_11 : ckK 11 = true := by decide +kernel
theorem ck_12 : ckK 12 = true := by decide +kernel
theorem ck_13 : ckK 13 = true := by decide +kernel
theorem ck_14 : ckK 14 = true := by decide +kernel
theorem ck_15 : ckK 15 = true := by decide +kernel
theorem ck_16 : ckK 16 = true := by decide +kernel
theorem ck_17 : ckK 17 = true := by decide +kernel
theorem ck_18 : ckK 18 = true := by decide +kernel
theorem ck_19 : ckK 19 = true := by decide +kernel
theorem ck_20 : ckK 20 = true := by decide +kernel
theorem ck_21 : ckK 21 = true := by decide +kernel
theorem ck_22 : ckK 22 = true := by decide +kernel
theorem ck_23 : ckK 23 = true := by decide +kernel
theorem ck_24 : ckK 24 = true := by decide +kernel
theorem ck_25 : ckK 25 = true := by decide +kernel
theorem ck_26 : ckK 26 = true := by decide +kernel
theorem ck_27 : ckK 27 = true := by decide +kernel
theorem ck_28 : ckK 28 = true := by decide +kernel
theorem ck_29 : ckK 29 = true := by decide +kernel
theorem ck_30 : ckK 30 = true := by decide +kernel
theorem ck_31 : ckK 31 = true := by decide +kernel
theorem ck_all : ∀ k, k < 32 → ckK k = true := by
  intro k hk
  match k, hk with
  | 0, _ => exact ck_0
  | 1, _ => exact ck_1
  | 2, _ => exact ck_2
  | 3, _ => exact ck_3
  | 4, _ => exact ck_4
  | 5, _ => exact ck_5
  | 6, _ => exact ck_6
  | 7, _ => exact ck_7
  | 8, _ => exact ck_8
  | 9, _ => exact ck_9
  | 10, _ => exact ck_10
  | 11, _ => exact ck_11
  | 12, _ => exact ck_12
  | 13, _ => exact ck_13
  | 14, _ => exact ck_14
  | 15, _ => exact ck_15
  | 16, _ => exact ck_16
  | 17, _ => exact ck_17
  | 18, _ => exact ck_18
  | 19, _ => exact ck_19
  | 20, _ => exact ck_20
  | 21, _ => exact ck_21
  | 22, _ => exact ck_22
  | 23, _ => exact ck_23
  | 24, _ => exact ck_24
  | 25, _ => exact ck_25
  | 26, _ => exact ck_26
  | 27, _ => exact ck_27
  | 28, _ => exact ck_28
  | 29, _ => exact ck_29
  | 30, _ => exact ck_30
  | 31, _ => exact ck_31
  | k + 32, hk => omega
theorem ivs_in : ∀ (r : List Nat) (c x : Nat), c ≤ x → x ≤ 4294967295 → ∃ u ∈ ivs (c :: r), u.1 ≤ x ∧ x ≤ u.2 := by
  intro r
  induction r with
  | nil => intro c x h1 h2; exact ⟨(c, 4294967295), List.mem_cons_self, h1, h2⟩
  | cons c2 r ih =>
    intro c x h1 h2
    rcases Nat.lt_or_ge x c2 with h | h
    · exact ⟨(c, c2 - 1), List.mem_cons_self, h1, by show x ≤ c2 - 1; omega⟩
    · obtain ⟨u, hu, h3⟩ := ih c2 x h h2
      exact ⟨u, List.mem_cons_of_mem _ hu, h3⟩
theorem cu1_0 (k : Nat) : ∃ r, cu1 k = 0 :: r := by
  unfold cu1
  split <;> exact ⟨_, rfl⟩
theorem cu2_0 (k : Nat) : ∃ r, cu2 k = 0 :: r := by
  unfold cu2
  split <;> exact ⟨_, rfl⟩
theorem ckO_s {o : Option eO} (h : ckO o = true) : ∃ h2, o = some (1, .inl 1, h2) ∧ e_cn h2 ≤ 600002 ∧ e_sl h2 ≤ 7302232 := by
  unfold ckO at h
  split at h
  · rename_i h2
    simp only [Bool.and_eq_true] at h
    exact ⟨h2, rfl, Nat.le_of_ble_eq_true h.1, Nat.le_of_ble_eq_true h.2⟩
  · cases h
theorem rL_s {B : eB} {o : eO} (h : rL B oL = some o) : ∃ g, oL = some g ∧ e_run opT (xget (xT eI 11) 8 pgs 0) (e_eval opT pgs ml B 10) B 5000 g = some o := by
  unfold rL at h
  generalize oL = q at h
  cases q with
  | none => cases h
  | some g => exact ⟨g, rfl, h⟩
theorem Bc_n {L : Nat} {k u v : Nat × Nat} {n : Nat} (hn : 4294967296 ≤ n) (n1 : n ≠ 4294967297) (n2 : n ≠ 4294967298) : Bc L k u v n = (0, 4294967295) := by
  unfold Bc
  rw [e_beq, e_beq, e_beq, e_beq, beq_false_of_ne (by omega), beq_false_of_ne (by omega), beq_false_of_ne n1, beq_false_of_ne n2]
  rfl
/-- every script of at most six numbers -/
theorem ev_all (L : Nat) (hL : L ≤ 6) (k u v : Nat) (hk : k < 32) (hu : u ≤ 4294967295) (hv : v ≤ 4294967295) : ∃ (B : eB) (g : eG) (h2 : eH), oL = some g ∧ e_run opT (xget (xT eI 11) 8 pgs 0) (e_eval opT pgs ml B 10) B 5000 g = some (1, .inl 1, h2) ∧ e_cn h2 ≤ 600002 ∧ e_sl h2 ≤ 7302232 ∧
    B 0 = (L, 1) ∧ ((B 1).2 = 1 → (B 1).1 = k) ∧ ∀ n, 4294967296 ≤ n → ((n = 4294967297 ∧ (B n).1 ≤ u ∧ u ≤ (B n).2) ∨ (n = 4294967298 ∧ (B n).1 ≤ v ∧ v ≤ (B n).2) ∨ B n = (0, 4294967295)) := by
  rcases Nat.lt_or_ge L 6 with h6 | h6
  · have h := List.all_eq_true.mp ev_s L (List.mem_range.mpr h6)
    obtain ⟨h2, e1, e2, e3⟩ := ckO_s h
    obtain ⟨g, e4, e5⟩ := rL_s e1
    refine ⟨_, g, h2, e4, e5, e2, e3, rfl, (fun q => by cases q), fun n hn => ?_⟩
    by_cases n1 : n = 4294967297
    · subst n1
      exact Or.inl ⟨rfl, Nat.zero_le _, hu⟩
    · by_cases n2 : n = 4294967298
      · subst n2
        exact Or.inr (Or.inl ⟨rfl, Nat.zero_le _, hv⟩)
      · exact Or.inr (Or.inr (Bc_n hn n1 n2))
  · obtain rfl : L = 6 := by omega
    have h := ck_all k hk
    unfold ckK at h
    obtain ⟨r1, hr1⟩ := cu1_0 k
    obtain ⟨r2, hr2⟩ := cu2_0 k
    rw [hr1, hr2] at h
    obtain ⟨iu, hiu, a1, a2⟩ := ivs_in r1 0 u (Nat.zero_le _) hu
    obtain ⟨iv, hiv, b1, b2⟩ := ivs_in r2 0 v (Nat.zero_le _) hv
    have h3 := List.all_eq_true.mp (List.all_eq_true.mp h iu hiu) iv hiv
    obtain ⟨h2, e1, e2, e3⟩ := ckO_s h3
    obtain ⟨g, e4, e5⟩ := rL_s e1
    refine ⟨_, g, h2, e4, e5, e2, e3, rfl, fun q => rfl, fun n hn => ?_⟩
    by_cases n1 : n = 4294967297
    · subst n1
      exact Or.inl ⟨rfl, a1, a2⟩
    · by_cases n2 : n = 4294967298
      · subst n2
        exact Or.inr (Or.inl ⟨rfl, b1, b2⟩)
      · exact Or.inr (Or.inr (Bc_n hn n1 n2))
