/-! ===== the start: the heap behind the constructors ===== -/
def B0 : eB := fun n => cond (Nat.ble n 1) (0, 0) (0, 4294967295)
noncomputable def g0 : eG := (0, [(0, .inr (.inr 4097))], [], (0, 0, 0, eall 10 (0, 0, fun _ => .inl 0)))
noncomputable def oL : Option eG := e_to opT (xget (xT eI 11) 9 pgs 0) (e_eval opT pgs ml B0 10) B0 13 g0
noncomputable def allN (n : Nat) (p : Nat → Bool) : Bool := Nat.rec (motive := fun _ => Bool) true (fun k ih => cond (p k) ih false) n
theorem allN_s {p : Nat → Bool} : ∀ n, allN n p = true → ∀ k, k < n → p k = true := by
  intro n
  induction n with
  | zero => intro _ k hk; omega
  | succ n ih =>
    intro h k hk
    have h' : cond (p n) (allN n p) false = true := h
    cases hp : p n with
    | false => rw [hp] at h'; cases h'
    | true =>
      rw [hp] at h'
      rcases Nat.lt_or_eq_of_le (Nat.le_of_lt_succ hk) with q | q
      · exact ih h' k q
      · rw [q]; exact hp
def wt (t : Nat) (v : eV) : Bool := match v with
  | .inl n => Nat.beq t 0 && Nat.ble n 4294967295
  | .inr (.inl _) => Nat.beq t 1
  | .inr (.inr n) => Nat.beq t 2 && Nat.ble 1 n
def und (v : eV) : Int := match v with
  | .inl n => cond (Nat.ble n 2147483647) (n : Int) ((n : Int) - 4294967296)
  | .inr (.inl n) => (n : Int)
  | .inr (.inr n) => (n : Int) - 1
theorem und_dv {t : Nat} {v : eV} (h : wt t v = true) : v = dv t (und v) := by
  rcases v with n | n | n
  · have h' : (Nat.beq t 0 && Nat.ble n 4294967295) = true := h
    simp only [Bool.and_eq_true] at h'
    have e := Nat.eq_of_beq_eq_true h'.1
    have hn := Nat.le_of_ble_eq_true h'.2
    subst e
    show Sum.inl n = Sum.inl (cd (cond (Nat.ble n 2147483647) (n : Int) ((n : Int) - 4294967296)))
    cases hb : Nat.ble n 2147483647 with
    | true =>
      show Sum.inl n = Sum.inl (cd (n : Int))
      rw [← cd_of_nat (by omega)]
    | false =>
      show Sum.inl n = Sum.inl (cd ((n : Int) - 4294967296))
      have : n = cd ((n : Int) - 4294967296) := by unfold cd; omega
      rw [← this]
  · have e := Nat.eq_of_beq_eq_true h
    subst e
    rfl
  · have h' : (Nat.beq t 2 && Nat.ble 1 n) = true := h
    simp only [Bool.and_eq_true] at h'
    have e := Nat.eq_of_beq_eq_true h'.1
    have hn := Nat.le_of_ble_eq_true h'.2
    subst e
    show (Sum.inr (Sum.inr n) : eV) = Sum.inr (Sum.inr (((n : Int) - 1).toNat + 1))
    rw [show ((n : Int) - 1).toNat + 1 = n by omega]
noncomputable def ckC (h : eH) (a : Nat) : Bool := match e_get h a with
  | (k, n, f) => Nat.beq k (kd a) && Nat.beq n (ln a) && allN (ln a) (fun i => wt (tyk (kd a) i) (f i))
noncomputable def ckS (o : Option eG) (p : eH → Bool) : Bool := match o with
  | some (pc, lo, st, h) => Nat.beq pc 23 && st.isEmpty && Nat.beq (e_sz h) 770 && Nat.beq (e_cn h) 770 && Nat.beq (e_sl h) 86302 && p h
  | none => false
noncomputable def M0f (h : eH) : Mm := fun a i => if a < 0 then 0 else und ((e_get h a.toNat).2.2 i.toNat)
theorem V_start {h : eH} (h1 : e_sz h = 770) (h2 : e_cn h = 770) (h3 : e_sl h = 86302) (hc : ∀ a, a < 770 → ckC h a = true) : V h (M0f h) := by
  refine ⟨h1, Int.le_refl _, by rw [h2]; rfl, by rw [h3]; rfl, fun a ha => ?_⟩
  have hq := hc a ha
  unfold ckC at hq
  generalize hge : e_get h a = x at hq
  obtain ⟨k, n, f⟩ := x
  simp only [Bool.and_eq_true] at hq
  refine ⟨Nat.eq_of_beq_eq_true hq.1.1, Nat.eq_of_beq_eq_true hq.1.2, fun i hi => ?_⟩
  have hw := allN_s _ hq.2 i hi
  have e : M0f h (a : Int) (i : Int) = und (f i) := by
    unfold M0f
    rw [if_neg (by omega), Int.toNat_natCast, Int.toNat_natCast, hge]
  rw [e]
  exact und_dv hw
set_option maxRecDepth 100000 in
theorem ck_start : ckS oL (fun h => allN 770 (ckC h)) = true := by decide +kernel
