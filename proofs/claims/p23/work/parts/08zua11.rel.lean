/-! ===== class and model in one memory: WORLDS ===== -/
theorem bq {x : Bool} {p : Prop} [Decidable p] (h : x = true ↔ p) : x = decide p := by
  by_cases q : p
  · rw [decide_eq_true q]; exact h.mpr q
  · rw [decide_eq_false q]
    cases x
    · rfl
    · exact absurd (h.mp rfl) q
/-- all bits of the rows that don't change: each WORLD's -/
def RWT (M : Mm) (R0 P pe ls n : Int) : Prop := ∀ (r j : Int) (b : Nat), 0 ≤ r → r ≤ 118 → (r < 102 ∨ 117 ≤ r) → 0 ≤ j → j ≤ 46 → b < 64 → (tb M (R0 + r) j b = true ↔ ∃ i : Int, 0 ≤ i ∧ i < n ∧ plX (M P i) pe ls r ∧ j = i / 64 ∧ (b : Int) = i % 64)
theorem RWT_of {M : Mm} {R0 P pe ls n : Int} (h : RWS M R0 P pe ls n) : RWT M R0 P pe ls n := fun r j b r0 r1 _ _ _ hb => h r j b r0 r1 hb
theorem RWT_fr {M M2 : Mm} {R0 P pe ls n : Int} (h : RWT M R0 P pe ls n) (e : ∀ r j : Int, 0 ≤ r → r ≤ 118 → (r < 102 ∨ 117 ≤ r) → M2 (R0 + r) j = M (R0 + r) j) (eP : ∀ i : Int, M2 P i = M P i) : RWT M2 R0 P pe ls n := fun r j b r0 r1 r2 j0 j1 hb => by
  rw [tb_eq (e r j r0 r1 r2), h r j b r0 r1 r2 j0 j1 hb]
  constructor
  · rintro ⟨i, a, b, c, d⟩
    exact ⟨i, a, b, by rw [eP]; exact c, d⟩
  · rintro ⟨i, a, b, c, d⟩
    rw [eP] at c
    exact ⟨i, a, b, c, d⟩
theorem RWT_i {M : Mm} {R0 P pe ls n i r : Int} (h : RWT M R0 P pe ls n) (i0 : 0 ≤ i) (i1 : i < n) (i3 : i < 3008) (r0 : 0 ≤ r) (r1 : r ≤ 118) (r2 : r < 102 ∨ 117 ≤ r) : tb M (R0 + r) (i / 64) (i % 64).toNat = true ↔ plX (M P i) pe ls r := by
  rw [h r (i / 64) (i % 64).toNat r0 r1 r2 (by omega) (by omega) (by omega)]
  constructor
  · rintro ⟨i2, a, b, c, d, e⟩
    have : i2 = i := by omega
    rw [this] at c
    exact c
  · intro c
    exact ⟨i, i0, i1, c, rfl, by omega⟩
theorem cnX_b (x k : Int) (n : Nat) : 0 ≤ cnX x k n ∧ cnX x k n ≤ n := cnK_b _ k n
theorem STB_of {M : Mm} {R0 P pe ls n i : Int} (h : RWT M R0 P pe ls n) (i0 : 0 ≤ i) (i1 : i < n) (i3 : i < 3008) (p0 : 0 ≤ pe) (p7 : pe ≤ 7) (hc : ∀ p : Int, 0 ≤ p → p < pe → 0 ≤ cdX (M P i) p ∧ cdX (M P i) p ≤ 5) (hd : dyX (M P i) ≤ 6) : STB M R0 pe ls (i / 64) (i % 64).toNat (cdX (M P i)) (rdX (M P i)) (dyX (M P i)) (wdX (M P i)) := by
  have hr : 0 ≤ rdX (M P i) ∧ rdX (M P i) ≤ 3 := by unfold rdX; omega
  have hy : 0 ≤ dyX (M P i) := by unfold dyX; omega
  have hw : 0 ≤ wdX (M P i) ∧ wdX (M P i) ≤ 1 := by unfold wdX; omega
  have hk : ∀ p : Int, 0 ≤ kdC (cdX (M P i) p) ∧ kdC (cdX (M P i) p) ≤ 4 := fun p => kdC_b (cdX_b _ _).1
  have hn : ∀ k : Int, 0 ≤ cnX (M P i) k pe.toNat ∧ cnX (M P i) k pe.toNat ≤ 7 := fun k => by
    have := cnX_b (M P i) k pe.toNat
    omega
  refine ⟨fun k k0 k1 => bq ((RWT_i h i0 i1 i3 k0 (by omega) (by omega)).trans ?_), fun k k0 k1 => ?_, fun k c k0 k4 c0 c7 => bq ((RWT_i h i0 i1 i3 (by omega) (by omega) (by omega)).trans ?_), fun p t q0 q1 t0 t1 => bq ((RWT_i h i0 i1 i3 (by omega) (by omega) (by omega)).trans ?_), ?_, ?_⟩
  · have e := kdC_Q (hc (k / 5) (by omega) (by omega)).2
    constructor
    · rintro (⟨p, a, b, c⟩ | ⟨t, a, b, c⟩ | a | a | a | a)
      · have hp := hk p
        rcases c with c | ⟨c, -⟩ | ⟨c, -⟩
        · have : p = k / 5 := by omega
          rw [this] at c
          omega
        · omega
        · omega
      · have := hn t
        omega
      · omega
      · omega
      · omega
      · omega
    · intro a
      refine Or.inl ⟨k / 5, by omega, by omega, Or.inl ?_⟩
      rw [e]
      omega
  · have hi := RWT_i h i0 i1 i3 (r := k) (by omega) (by omega) (by omega)
    have key : plX (M P i) pe ls k ↔ (k = 35 + rdX (M P i) ∨ k = 39 + dyX (M P i) ∨ k = 46 + wdX (M P i)) := by
      constructor
      · rintro (⟨p, a, b, c⟩ | ⟨t, a, b, c⟩ | a | a | a | a)
        · have hp := hk p
          rcases c with c | ⟨c, -⟩ | ⟨c, -⟩ <;> omega
        · have := hn t
          omega
        · exact Or.inl a
        · exact Or.inr (Or.inl a)
        · exact Or.inr (Or.inr a)
        · omega
      · rintro (a | a | a)
        · exact Or.inr (Or.inr (Or.inl a))
        · exact Or.inr (Or.inr (Or.inr (Or.inl a)))
        · exact Or.inr (Or.inr (Or.inr (Or.inr (Or.inl a))))
    by_cases a : k < 39
    · rw [if_pos a]
      exact bq (hi.trans (key.trans ⟨fun x => by omega, fun x => by omega⟩))
    · rw [if_neg a]
      by_cases a2 : k < 46
      · rw [if_pos a2]
        exact bq (hi.trans (key.trans ⟨fun x => by omega, fun x => by omega⟩))
      · rw [if_neg a2]
        exact bq (hi.trans (key.trans ⟨fun x => by omega, fun x => by omega⟩))
  · have e : cnK (fun p => kdQ (cdX (M P i) p)) k pe.toNat = cnX (M P i) k pe.toNat := cnK_cg _ fun p hp => (kdC_Q (hc p (by omega) (by omega)).2).symm
    rw [e]
    constructor
    · rintro (⟨p, a, b, q⟩ | ⟨t, a, b, q⟩ | a | a | a | a)
      · have hp := hk p
        rcases q with q | ⟨q, -⟩ | ⟨q, -⟩ <;> omega
      · have h1 := hn t
        have : t = k := by omega
        rw [this] at q
        omega
      · omega
      · omega
      · omega
      · omega
    · intro a
      exact Or.inr (Or.inl ⟨k, k0, k4, by omega⟩)
  · constructor
    · rintro (⟨p2, a, b, q⟩ | ⟨u, a, b, q⟩ | a | a | a | a)
      · have hp := hk p2
        rcases q with q | ⟨q, q2⟩ | ⟨q, q2⟩
        · omega
        · have e1 : p2 = p := by omega
          have e2 : t = 0 := by omega
          rw [e1] at q2
          rw [e2]
          exact q2
        · have e1 : p2 = p := by omega
          have e2 : t = 1 := by omega
          rw [e1] at q2
          rw [e2]
          exact q2
      · have := hn u
        omega
      · omega
      · omega
      · omega
      · omega
    · intro a
      refine Or.inl ⟨p, q0, q1, Or.inr ?_⟩
      by_cases e : t = 0
      · rw [e] at a
        exact Or.inl ⟨by omega, a⟩
      · have e1 : t = 1 := by omega
        rw [e1] at a
        exact Or.inr ⟨by omega, a⟩
  · have hi := RWT_i h i0 i1 i3 (r := 117) (by decide) (by decide) (by decide)
    cases e : tb M (R0 + 117) (i / 64) (i % 64).toNat
    · rfl
    · exfalso
      rcases hi.mp e with ⟨p, a, b, c⟩ | ⟨t, a, b, c⟩ | a | a | a | a
      · have hp := hk p
        rcases c with c | ⟨c, -⟩ | ⟨c, -⟩ <;> omega
      · have := hn t
        omega
      · omega
      · omega
      · omega
      · omega
  · exact (RWT_i h i0 i1 i3 (r := 118) (by decide) (by decide) (by decide)).mpr (Or.inr (Or.inr (Or.inr (Or.inr (Or.inr rfl)))))
theorem EVQ_q {N ls r day y r2 day2 y2 : Int} {q q2 t : Int → Int} {e : Ev} (h : EVQ N ls q r day y t e) (hq : ∀ p : Int, 0 ≤ p → p < N → q2 p = q p) (e1 : r2 = r) (e2 : day2 = day) (e3 : y2 = y) : EVQ N ls q2 r2 day2 y2 t e := by
  obtain ⟨a1, a2, a3, a4, a5, a6, a7⟩ := h
  rw [e1, e2, e3]
  exact ⟨fun p x y => by rw [hq p x y]; exact a1 p x y, a2, a3, a4, a5, fun p x y => by rw [hq p x y]; exact a6 p x y, fun p x y => by rw [hq p x y]; exact a7 p x y⟩
theorem tpF_1 (u : Int → Int) (p : Int) : ∀ n : Nat, tpF u p 1 n = 1 - tpF u p 0 n := by
  intro n
  induction n with
  | zero => show (1 : Int) = 1 - 0; decide
  | succ n ih =>
    show (if u n = p then 1 - tpF u p 1 n else tpF u p 1 n) = 1 - (if u n = p then 1 - tpF u p 0 n else tpF u p 0 n)
    rw [ih]
    split <;> omega
/-- at later turns -/
theorem EVQ_t {M : Mm} {w L so N ls r day y : Int} {q tt : Int → Int} (h : EVQ N ls q r day y (fun _ => 0) (evF M w 0 0)) (h7 : N ≤ 7) (ht : ∀ p : Int, 0 ≤ p → p < N → tt p = tpF (fun k => M 748 k) p 0 L.toNat) : EVQ N ls q r day y tt (evF M w L so) := by
  obtain ⟨e1, e2, e3, e4, e5, e6, e7⟩ := h
  rw [evF_10] at e2
  rw [evF_11] at e3
  rw [evF_12] at e4
  rw [evF_13] at e5
  refine ⟨fun p p0 p1 => ?_, evF_10.trans e2, evF_11.trans e3, evF_12.trans e4, evF_13.trans e5, fun p p0 p1 => ?_, e7⟩
  · have := e1 p p0 p1
    rw [evF_k (by omega)] at this ⊢
    exact this
  · have a := e6 p p0 p1
    have k := e1 p p0 p1
    have b := e7 p p0 p1
    rw [evF_20 p0 (by omega)] at a ⊢
    rw [evF_k (by omega)] at k
    unfold lyF at a ⊢
    rw [k] at a ⊢
    have : q p = 0 ∨ q p = 1 ∨ q p = 2 ∨ q p = 3 ∨ q p = 4 ∨ q p = 5 := by omega
    rcases this with e | e | e | e | e | e <;> rw [e] at a ⊢
    · rfl
    · rfl
    · have a2 : M 743 w / pw p % 2 = 0 := a
      show tpF (fun k => M 748 k) p (M 743 w / pw p % 2) L.toNat = tt p
      rw [a2]
      exact (ht p p0 p1).symm
    · have a2 : M 743 w / pw p % 2 = 1 := a
      show tpF (fun k => M 748 k) p (M 743 w / pw p % 2) L.toNat = 1 - tt p
      rw [a2, tpF_1, ht p p0 p1]
    · exact a
    · rfl
/-- the rows at a WORLD that was kept tell it, at later turns too -/
theorem RS_at {M : Mm} {pe ls n i L so w : Int} {u : Int → Int} {R D W eD0 : Int} (h : RWT M 17 136 pe ls n) (i0 : 0 ≤ i) (i1 : i < n) (i3 : i < 3008) (p0 : 0 ≤ pe) (p7 : pe ≤ 7) (hu : ∀ p : Int, 0 ≤ p → p < pe → 0 ≤ u p ∧ u p ≤ 31) (hK : IDX pe u R D W i (cdX (M 136 i)) (rdX (M 136 i)) (dyX (M 136 i) - eD0) (wdX (M 136 i))) (hD : eD0 + D ≤ 7) (hE : EVI pe u R D W eD0 ls i (evF M w 0 0)) (ht : ∀ p : Int, 0 ≤ p → p < 7 → M 11 p = tpF (fun k => M 748 k) p 0 L.toNat) (h30 : ∀ k : Int, 0 ≤ k → k ≤ 14 → tbI M (119 + k) i = decide (evF M w L so (30 + k) = 1)) : RSb M 17 11 pe (i / 64) (i % 64).toNat (evF M w L so) := by
  have hc : ∀ p : Int, 0 ≤ p → p < pe → 0 ≤ cdX (M 136 i) p ∧ cdX (M 136 i) p ≤ 5 := fun p a b => ⟨(hK.1 p a b).1, (hK.1 p a b).2.1⟩
  have hd : dyX (M 136 i) ≤ 6 := by
    have := hK.2.2.2.2.2.1
    omega
  have hS := STB_of h i0 i1 i3 p0 p7 hc hd
  obtain ⟨q, r, d, y, hI, hQ, -⟩ := hE
  obtain ⟨o1, o2, o3, o4⟩ := IDX_one hu hI hK
  have hQ2 : EVQ pe ls (cdX (M 136 i)) (rdX (M 136 i)) (dyX (M 136 i)) (wdX (M 136 i)) (fun _ => 0) (evF M w 0 0) := EVQ_q hQ (fun p a b => (o1 p a (by omega)).symm) o2.symm (by omega) o4.symm
  refine RS_of hS (EVQ_t hQ2 p7 (fun p a b => ht p a (by omega))) p7 (fun p a b => ?_) (fun k a b => ?_)
  · rw [ht p a b]
    exact tpF_b ⟨by decide, by decide⟩ _
  · have := h30 k a b
    unfold tbI at this
    rw [show (17 : Int) + (102 + k) = 119 + k by omega]
    exact this
/-! picking: the class's bits, the model's WORLDS -/
theorem cnB_flat {f : Int → Bool} {a : Nat} : ∀ b : Nat, a ≤ b → (∀ i : Int, (a : Int) ≤ i → i < b → f i = false) → cnB f b = cnB f a := by
  intro b
  induction b with
  | zero => intro h _; rw [show a = 0 by omega]
  | succ b ih =>
    intro h hz
    by_cases q : a = b + 1
    · rw [q]
    · show cnB f b + b2i (f b) = cnB f a
      rw [hz b (by omega) (by omega), ih (by omega) (fun i h1 h2 => hz i h1 (by omega))]
      exact Int.add_zero _
section KFs
variable {f g : Int → Bool} {Kf : Int → Int} {m n : Int}
def KFI (f g : Int → Bool) (Kf : Int → Int) (m n : Int) : Prop := (∀ w v : Int, 0 ≤ w → w < v → v < m → Kf w < Kf v) ∧ (∀ w : Int, 0 ≤ w → w < m → 0 ≤ Kf w ∧ Kf w < n ∧ g (Kf w) = f w) ∧ ∀ i : Int, 0 ≤ i → i < n → (∀ w : Int, 0 ≤ w → w < m → Kf w ≠ i) → g i = false
theorem KF_ne (h : KFI f g Kf m n) {w i : Int} (w0 : 0 ≤ w) (w1 : w + 1 < m) (h1 : Kf w < i) (h2 : i < Kf (w + 1)) : ∀ v : Int, 0 ≤ v → v < m → Kf v ≠ i := fun v v0 v1 e => by
  rcases Int.lt_trichotomy v w with q | q | q
  · have := h.1 v w v0 q (by omega)
    omega
  · rw [q] at e
    omega
  · rcases Int.lt_trichotomy v (w + 1) with q2 | q2 | q2
    · omega
    · rw [q2] at e
      omega
    · have := h.1 (w + 1) v (by omega) q2 v1
      omega
theorem KF_cn (h : KFI f g Kf m n) : ∀ w : Nat, (w : Int) < m → cnB g (Kf w).toNat = cnB f w := by
  intro w
  induction w with
  | zero =>
    intro hw
    have h0 := h.2.1 0 (by omega) hw
    show cnB g (Kf 0).toNat = 0
    rw [cnB_flat (a := 0) (Kf 0).toNat (Nat.zero_le _) (fun i i0 i1 => h.2.2 i (by omega) (by omega) (fun v v0 v1 e => by
      rcases Int.lt_trichotomy v 0 with q | q | q
      · omega
      · rw [q] at e; omega
      · have := h.1 0 v (by decide) q v1
        omega))]
    rfl
  | succ w ih =>
    intro hw
    have hw2 : (w : Int) + 1 < m := by omega
    have e : (((w + 1 : Nat)) : Int) = (w : Int) + 1 := by omega
    have a := h.2.1 w (by omega) (by omega)
    have b := h.2.1 ((w : Int) + 1) (by omega) hw2
    have c := h.1 w ((w : Int) + 1) (by omega) (by omega) hw2
    rw [e, cnB_flat (f := g) (a := (Kf w + 1).toNat) (Kf ((w : Int) + 1)).toNat (by omega) (fun i i0 i1 => h.2.2 i (by omega) (by omega) (KF_ne h (by omega) hw2 (by omega) (by omega))), cnB_s a.1, ih (by omega), a.2.2]
    rfl
theorem KF_all (h : KFI f g Kf m n) (hn : 0 ≤ n) : cnB g n.toNat = cnB f m.toNat := by
  by_cases q : m ≤ 0
  · rw [show m.toNat = 0 by omega, cnB_flat (f := g) (a := 0) n.toNat (Nat.zero_le _) (fun i i0 i1 => h.2.2 i (by omega) (by omega) (fun v v0 v1 => by omega))]
    rfl
  · have a := h.2.1 (m - 1) (by omega) (by omega)
    have c := KF_cn h (m - 1).toNat (by omega)
    rw [show (((m - 1).toNat : Nat) : Int) = m - 1 by omega] at c
    rw [cnB_flat (f := g) (a := (Kf (m - 1) + 1).toNat) n.toNat (by omega) (fun i i0 i1 => h.2.2 i (by omega) (by omega) (fun v v0 v1 e => by
      by_cases q2 : v = m - 1
      · rw [q2] at e; omega
      · have := h.1 v (m - 1) v0 (by omega) (by omega)
        omega)), cnB_s a.1, c, a.2.2]
    have := cnB_s (f := f) (k := m - 1) (by omega)
    rw [show m - 1 + 1 = m by omega] at this
    exact this.symm
theorem KF_pck (h : KFI f g Kf m n) (hn : 0 ≤ n) {i z : Int} (p : PCK f m i z) : PCK g n i (if z = -1 then -1 else Kf z) := by
  rcases p with ⟨a, b⟩ | ⟨a, b, c, d, e⟩
  · rw [if_pos a]
    exact Or.inl ⟨rfl, by rw [KF_all h hn]; exact b⟩
  · rw [if_neg (by omega)]
    have k := h.2.1 z a b
    refine Or.inr ⟨k.1, k.2.1, c, by rw [k.2.2]; exact d, ?_⟩
    have := KF_cn h z.toNat (by omega)
    rw [show ((z.toNat : Nat) : Int) = z by omega] at this
    rw [this]
    exact e
/-- both pick the same -/
theorem KF_two (h : KFI f g Kf m n) (hn : 0 ≤ n) {i z z2 : Int} (p : PCK f m i z) (p2 : PCK g n i z2) : z2 = if z = -1 then -1 else Kf z := PCK_one p2 (KF_pck h hn p)
end KFs

/-! ===== class and model in one memory: what holds between two calls ===== -/
section BTs
variable {x c k L : Int}
theorem bt_z (h0 : 0 ≤ k) (h1 : k < L) : ∃ z : Int, pw L * c = pw k * (2 * z) := by
  refine ⟨pw (L - k - 1) * c, ?_⟩
  have e : pw L = pw k * (2 * pw (L - k - 1)) := by
    rw [← pw_succ (by omega), ← pw_add h0 (by omega), show k + (L - k - 1 + 1) = L by omega]
  rw [e, Int.mul_assoc, Int.mul_assoc]
theorem bt_lo (h0 : 0 ≤ k) (h1 : k < L) : (x + pw L * c) / pw k % 2 = x / pw k % 2 := by
  obtain ⟨z, e⟩ := bt_z (c := c) h0 h1
  rw [e, Int.add_mul_ediv_left _ _ (by have := pw_pos k; omega)]
  omega
theorem bt_hi (h0 : 0 ≤ x) (h1 : x < pw L) (c0 : 0 ≤ c) (c1 : c ≤ 1) : (x + pw L * c) / pw L % 2 = c := by
  rw [Int.add_mul_ediv_left _ _ (by have := pw_pos L; omega), Int.ediv_eq_zero_of_lt h0 h1]
  omega
theorem md_lo (h0 : 0 ≤ k) (h1 : k ≤ L) : (x + pw L * c) % pw k = x % pw k := by
  have e : pw L = pw k * pw (L - k) := by rw [← pw_add h0 (by omega), show k + (L - k) = L by omega]
  rw [e, Int.mul_assoc, Int.add_mul_emod_self_left]
theorem md_is (x k : Int) : x = x % pw k + pw k * (x / pw k) := by
  have := Int.emod_add_mul_ediv x (pw k)
  exact this.symm
theorem md_bt (h0 : 0 ≤ k) (h1 : k < L) : x % pw L / pw k % 2 = x / pw k % 2 := by
  have e := bt_lo (x := x % pw L) (c := x / pw L) h0 h1
  rw [← md_is] at e
  exact e.symm
theorem md_md (h0 : 0 ≤ k) (h1 : k ≤ L) : x % pw L % pw k = x % pw k := by
  have e := md_lo (x := x % pw L) (c := x / pw L) h0 h1
  rw [← md_is] at e
  exact e.symm
theorem md_b (x k : Int) : 0 ≤ x % pw k ∧ x % pw k < pw k := ⟨Int.emod_nonneg _ (by have := pw_pos k; omega), Int.emod_lt_of_pos _ (pw_pos k)⟩
theorem md_eq (h0 : 0 ≤ x) (h1 : x < pw k) : x % pw k = x := Int.emod_eq_of_lt h0 h1
theorem lf_hi {b : Bool} (hL : 0 ≤ L) (h0 : 0 ≤ x) (h1 : x < pw L) : decide ((x + pw L * b2i b) % pw (L + 1) = pw (L + 1) - 1) = (decide (x % pw L = pw L - 1) && b) := by
  have hp := pw_pos L
  have e := pw_succ hL
  rw [md_eq h0 h1]
  cases b
  · have : (x + pw L * b2i false) = x := by
      show x + pw L * 0 = x
      rw [Int.mul_zero, Int.add_zero]
    rw [this, md_eq h0 (by omega), decide_eq_false (by omega), Bool.and_false]
  · have : (x + pw L * b2i true) = x + pw L := by
      show x + pw L * 1 = x + pw L
      rw [Int.mul_one]
    rw [this, md_eq (by omega) (by omega), Bool.and_true]
    exact decide_eq_decide.mpr ⟨fun q => by omega, fun q => by omega⟩
theorem b2_b {b : Bool} (hL : 0 ≤ L) (h0 : 0 ≤ x) (h1 : x < pw L) : 0 ≤ x + pw L * b2i b ∧ x + pw L * b2i b < pw (L + 1) := by
  have hp := pw_pos L
  have e := pw_succ hL
  cases b
  · have : pw L * b2i false = 0 := Int.mul_zero _
    omega
  · have : pw L * b2i true = pw L := Int.mul_one _
    omega
theorem b2_d (b : Bool) : decide (b2i b = 1) = b := by cases b <;> rfl
end BTs
/-- the ISLAND: the plan, WORLDS, their numbers -/
def RWK (M : Mm) (Kf : Int → Int) : Prop := ((M 739 1 = M 2 1 ∧ M 739 2 = M 2 2 ∧ M 739 3 = M 2 4 ∧ ∀ k : Int, 0 ≤ k → k < M 2 1 → M 740 k = M 3 k) ∧ M 10 9 ≤ 64 * M 10 10) ∧ RWT M 17 136 (M 2 1) (M 2 4) (M 10 9) ∧ (∀ i : Int, 0 ≤ i → i < M 10 9 → WKP M (M 136 i) (M 137 i) i) ∧ (∀ w v : Int, 0 ≤ w → w < v → v < M 739 7 → Kf w < Kf v) ∧ ∀ w : Int, 0 ≤ w → w < M 739 7 → 0 ≤ Kf w ∧ Kf w < M 10 9 ∧ EVI (M 2 1) (fun k => M 3 k) (M 2 2) (lD M 2 - eD M 2 + 1) (lW M 2 + 1) (eD M 2) (M 2 4) (Kf w) (evF M w 0 0) ∧ ∀ p : Int, 0 ≤ p → p < 7 → (kiF M w p ≠ 2 → M 743 w / pw p % 2 = 0) ∧ (M 2 1 ≤ p → kiF M w p = 0)
/-- EVENTS -/
def RWD (M : Mm) (Kf : Int → Int) : Prop := (M 138 5 = M 739 15 ∧ ∀ k : Int, 0 ≤ k → k < M 739 15 → M 139 k = M 748 k) ∧ (∀ p : Int, 0 ≤ p → p < 7 → M 11 p = tpF (fun k => M 748 k) p 0 (M 739 15).toNat) ∧ (∀ k : Int, M 739 15 ≤ k → k ≤ 14 → ∀ (j : Int) (b : Nat), 0 ≤ j → j ≤ 46 → b < 64 → tb M (119 + k) j b = false) ∧ (∀ w : Int, 0 ≤ w → w < M 739 7 → (0 ≤ M 751 w ∧ M 751 w < pw (M 739 15)) ∧ (0 ≤ M 752 w ∧ M 752 w < pw (M 739 15))) ∧ (∀ w k : Int, 0 ≤ w → w < M 739 7 → 0 ≤ k → k < M 739 15 → tbI M (119 + k) (Kf w) = decide (M 751 w / pw k % 2 = 1) ∧ tbI M (142 + k) (Kf w) = decide (M 752 w / pw k % 2 = 1)) ∧ (∀ w k : Int, 0 ≤ w → w < M 739 7 → 0 ≤ k → k ≤ M 739 15 → tbI M (155 + k) (Kf w) = decide (M 752 w % pw k = pw k - 1)) ∧ ∀ i k : Int, 0 ≤ i → i < 64 * M 10 10 → (∀ w : Int, 0 ≤ w → w < M 739 7 → Kf w ≠ i) → 0 ≤ k → k ≤ M 739 15 → tbI M (155 + k) i = false
/-- SENTENCES -/
def RWC (M : Mm) : Prop := ∀ s : Int, 0 ≤ s → s < M 739 13 → ∃ O : List Int, LST (fun k => M 747 k) (400 * s) O ∧ EQ (M 2 1) (CL M (679 + 2 * s)) O 13
/-- QUESTIONS, the hidden WORLD, the seed -/
def RWQ (M : Mm) (Kf : Int → Int) : Prop := (∀ q : Int, 0 ≤ q → q < M 739 21 → M 169 q = 30 * M 753 q + M 754 q ∧ 0 ≤ M 753 q ∧ M 753 q < M 2 1 ∧ 0 ≤ M 754 q ∧ M 754 q < M 739 13) ∧ ((M 0 13 = -1 ∧ M 739 24 = -1) ∨ (0 ≤ M 739 24 ∧ M 739 24 < M 739 7 ∧ M 0 13 = Kf (M 739 24))) ∧ M 0 14 = M 739 25
def RELW (M : Mm) : Prop := ∃ Kf : Int → Int, RWK M Kf ∧ RWD M Kf ∧ RWC M ∧ RWQ M Kf
/-- the class's cells are the same -/
def CSK (M M2 : Mm) : Prop := (∀ k : Int, 0 ≤ k → k < 7 → M2 2 k = M 2 k) ∧ (∀ k : Int, M2 3 k = M 3 k) ∧ (M2 10 9 = M 10 9 ∧ M2 10 10 = M 10 10) ∧ (∀ r j : Int, 0 ≤ r → r ≤ 118 → (r < 102 ∨ 117 ≤ r) → M2 (17 + r) j = M (17 + r) j) ∧ (∀ i : Int, M2 136 i = M 136 i) ∧ ∀ i : Int, M2 137 i = M 137 i
def CSD (M M2 : Mm) : Prop := M2 138 5 = M 138 5 ∧ (∀ k : Int, M2 139 k = M 139 k) ∧ (∀ k : Int, M2 11 k = M 11 k) ∧ (∀ k j : Int, 0 ≤ k → k ≤ 14 → M2 (119 + k) j = M (119 + k) j) ∧ (∀ k j : Int, 0 ≤ k → k ≤ 11 → M2 (142 + k) j = M (142 + k) j) ∧ (∀ k j : Int, 0 ≤ k → k ≤ 12 → M2 (155 + k) j = M (155 + k) j) ∧ M2 10 10 = M 10 10
def CSC5 (M M2 : Mm) : Prop := M2 2 1 = M 2 1 ∧ ∀ c : Int, isC c → c ≠ 4 → CL M2 c = CL M c
def CSQ (M M2 : Mm) : Prop := M2 2 1 = M 2 1 ∧ (∀ k : Int, M2 169 k = M 169 k) ∧ M2 0 13 = M 0 13 ∧ M2 0 14 = M 0 14
def MSK (M M2 : Mm) : Prop := (M2 739 1 = M 739 1 ∧ M2 739 2 = M 739 2 ∧ M2 739 3 = M 739 3 ∧ M2 739 7 = M 739 7) ∧ (∀ k : Int, M2 740 k = M 740 k) ∧ (∀ a w : Int, (a = 742 ∨ a = 743 ∨ a = 744 ∨ a = 745 ∨ a = 746) → M2 a w = M a w) ∧ ∀ k : Int, k < 0 → M2 748 k = M 748 k
def MSD (M M2 : Mm) : Prop := M2 739 15 = M 739 15 ∧ M2 739 7 = M 739 7 ∧ (∀ k : Int, 0 ≤ k → k < M 739 15 → M2 748 k = M 748 k) ∧ ∀ w : Int, 0 ≤ w → w < M 739 7 → M2 751 w = M 751 w ∧ M2 752 w = M 752 w
def MSC (M M2 : Mm) : Prop := M2 739 13 = M 739 13 ∧ ∀ k : Int, M2 747 k = M 747 k
def MSQ (M M2 : Mm) : Prop := M2 739 13 = M 739 13 ∧ M2 739 21 = M 739 21 ∧ M2 739 24 = M 739 24 ∧ M2 739 25 = M 739 25 ∧ M2 739 7 = M 739 7 ∧ (∀ k : Int, M2 753 k = M 753 k) ∧ ∀ k : Int, M2 754 k = M 754 k
theorem PL_fr5 {M M2 : Mm} (h : ∀ k : Int, 0 ≤ k → k < 7 → M2 2 k = M 2 k) : lD M2 2 = lD M 2 ∧ eD M2 2 = eD M 2 ∧ lW M2 2 = lW M 2 := by
  unfold lD lW eD
  rw [h 3 (by decide) (by decide), h 5 (by decide) (by decide), h 6 (by decide) (by decide)]
  exact ⟨rfl, rfl, rfl⟩
theorem RWK_fr {M M2 : Mm} {Kf : Int → Int} (h : RWK M Kf) (c : CSK M M2) (m : MSK M M2) : RWK M2 Kf := by
  obtain ⟨⟨⟨h1, h2, h3, h4⟩, h5⟩, h6, h7, h8, h9⟩ := h
  obtain ⟨c1, c2, ⟨c3, c4⟩, c5, c6, c7⟩ := c
  obtain ⟨⟨m1, m2, m3, m4⟩, m5, m6, m7⟩ := m
  have p1 := c1 1 (by decide) (by decide)
  have p2 := c1 2 (by decide) (by decide)
  have p4 := c1 4 (by decide) (by decide)
  obtain ⟨q1, q2, q3⟩ := PL_fr5 c1
  refine ⟨⟨⟨by rw [m1, p1]; exact h1, by rw [m2, p2]; exact h2, by rw [m3, p4]; exact h3, fun k a b => by rw [m5, c2]; exact h4 k a (by rw [← p1]; exact b)⟩, by rw [c3, c4]; exact h5⟩, ?_, fun i a b => ?_, fun w v a b d => h8 w v a b (by rw [← m4]; exact d), fun w a b => ?_⟩
  · rw [p1, p4, c3]
    exact RWT_fr h6 c5 c6
  · rw [WKP_fr c1 c2, c6, c7]
    exact h7 i a (by rw [← c3]; exact b)
  · rw [p1, p2, p4, q1, q2, q3, c3, show (fun k => M2 3 k) = (fun k => M 3 k) from funext c2, evF_748 (M2 := M2) (M := M) (fun x y => m6 x w y) m7 m1 m3]
    obtain ⟨x1, x2, x3, x4⟩ := h9 w a (by rw [← m4]; exact b)
    refine ⟨x1, x2, x3, fun p q0 q1 => ?_⟩
    have ek : kiF M2 w p = kiF M w p := by unfold kiF; rw [m6 742 w (by decide)]
    rw [m6 743 w (by decide), ek]
    exact x4 p q0 q1
theorem RWD_fr {M M2 : Mm} {Kf : Int → Int} (h : RWD M Kf) (hL : 0 ≤ M 739 15 ∧ M 739 15 ≤ 12) (c : CSD M M2) (m : MSD M M2) : RWD M2 Kf := by
  obtain ⟨⟨h1, h2⟩, h3, h4, h5, h6, h7, h8⟩ := h
  obtain ⟨c1, c2, c3, c4, c5, c6, c7⟩ := c
  obtain ⟨m1, m2, m3, m4⟩ := m
  unfold RWD
  rw [m1, m2, c1, c7]
  refine ⟨⟨h1, fun k a b => by rw [c2, m3 k a b]; exact h2 k a b⟩, fun p pa pb => ?_, fun k a b j t j0 j1 ht => by rw [tb_eq (c4 k j (by omega) b)]; exact h4 k a b j t j0 j1 ht, fun w a b => by rw [(m4 w a b).1, (m4 w a b).2]; exact h5 w a b, fun w k a b d e => ?_, fun w k a b d e => ?_, fun i k a b d e f => ?_⟩
  · rw [c3, h3 p pa pb]
    exact (tpF_cg _ (fun k hk => m3 k (by omega) (by omega))).symm
  · have q := h6 w k a b d e
    unfold tbI at q ⊢
    rw [tb_eq (c4 k _ d (by omega)), tb_eq (c5 k _ d (by omega)), (m4 w a b).1, (m4 w a b).2]
    exact q
  · have q := h7 w k a b d e
    unfold tbI at q ⊢
    rw [tb_eq (c6 k _ d (by omega)), (m4 w a b).2]
    exact q
  · have q := h8 i k a b d e f
    unfold tbI at q ⊢
    rw [tb_eq (c6 k _ e (by omega))]
    exact q
theorem RWC_fr {M M2 : Mm} (h : RWC M) (hs : M 739 13 ≤ 30) (c : CSC5 M M2) (m : MSC M M2) : RWC M2 := fun s a b => by
  obtain ⟨O, x, y⟩ := h s a (by rw [← m.1]; exact b)
  have b2 : s < M 739 13 := by rw [← m.1]; exact b
  refine ⟨O, ?_, ?_⟩
  · rw [show (fun k => M2 747 k) = (fun k => M 747 k) from funext m.2]
    exact x
  · rw [c.1, c.2 (679 + 2 * s) (Or.inr (by omega)) (by omega)]
    exact y
theorem RWQ_fr {M M2 : Mm} {Kf : Int → Int} (h : RWQ M Kf) (c : CSQ M M2) (m : MSQ M M2) : RWQ M2 Kf := by
  obtain ⟨h1, h2, h3⟩ := h
  obtain ⟨c1, c2, c3, c4⟩ := c
  obtain ⟨m1, m2, m3, m4, m5, m6, m7⟩ := m
  unfold RWQ
  rw [c1, c3, c4, m1, m2, m3, m4, m5]
  exact ⟨fun q a b => by rw [c2, m6, m7]; exact h1 q a b, h2, h3⟩
theorem RELW_fr {M M2 : Mm} (h : RELW M) (hL : 0 ≤ M 739 15 ∧ M 739 15 ≤ 12) (hs : M 739 13 ≤ 30) (c1 : CSK M M2) (c2 : CSD M M2) (c3 : CSC5 M M2) (c4 : CSQ M M2) (m1 : MSK M M2) (m2 : MSD M M2) (m3 : MSC M M2) (m4 : MSQ M M2) : RELW M2 := by
  obtain ⟨Kf, a, b, c, d⟩ := h
  exact ⟨Kf, RWK_fr a c1 m1, RWD_fr b hL c2 m2, RWC_fr c hs c3 m3, RWQ_fr d c4 m4⟩
/-- the rows at a WORLD that was kept -/
theorem RW_at {M : Mm} {Kf : Int → Int} (hk : RWK M Kf) (hd : RWD M Kf) (hP : Pw M) {w : Int} (w0 : 0 ≤ w) (w1 : w < M 739 7) (hL : 0 ≤ M 739 15 ∧ M 739 15 ≤ 12) (p0 : 0 ≤ M 2 1) (p7 : M 2 1 ≤ 7) (hu : ∀ p : Int, 0 ≤ p → p < 7 → 0 ≤ M 3 p ∧ M 3 p ≤ 31) (hday : -1 ≤ M 2 3 ∧ M 2 3 ≤ 6) : RSb M 17 11 (M 2 1) (Kf w / 64) (Kf w % 64).toNat (evF M w (M 739 15) (M 751 w)) := by
  obtain ⟨-, h6, h7, h8, h9⟩ := hk
  obtain ⟨-, h3, h4, h5, hb, -, -⟩ := hd
  obtain ⟨a, b, c, -⟩ := h9 w w0 w1
  have hw := (h7 (Kf w) a b).1
  have hD : eD M 2 + (lD M 2 - eD M 2 + 1) ≤ 7 := by
    unfold lD eD
    split <;> split <;> omega
  have hn := (bf_10_9 hP).2
  refine RS_at (u := fun k => M 3 k) (eD0 := eD M 2) h6 a b (by omega) p0 p7 (fun p x y => hu p x (by omega)) hw hD c (fun p x y => h3 p x y) (fun k k0 k14 => ?_)
  rw [evF_30 k0]
  by_cases q : k < M 739 15
  · rw [if_pos q]
    exact (hb w k w0 w1 k0 q).1
  · rw [if_neg q, decide_eq_false (by decide)]
    exact h4 k (by omega) k14 _ _ (by omega) (by omega) (by omega)

/-! ===== what a call does to what holds ===== -/
theorem tbI_eq {M M2 : Mm} {a i : Int} (h : M2 a (i / 64) = M a (i / 64)) : tbI M2 a i = tbI M a i := by
  unfold tbI
  rw [tb_eq h]
theorem RW_ev {M M1 M2 : Mm} {Kf : Int → Int} {p s wd : Int} {O : List Int} (hk : RWK M Kf) (hd : RWD M Kf) (hc : RWC M) (hP : Pw M) (hL : 0 ≤ M 739 15 ∧ M 739 15 ≤ 11) (hs : M 739 13 ≤ 30) (p0 : 0 ≤ p) (p1 : p < M 2 1) (p7 : M 2 1 ≤ 7) (s0 : 0 ≤ s) (s1 : s < M 739 13) (hw : wd = -1 ∨ wd = 0 ∨ wd = 1) (hu : ∀ p : Int, 0 ≤ p → p < 7 → 0 ≤ M 3 p ∧ M 3 p ≤ 31) (hday : -1 ≤ M 2 3 ∧ M 2 3 ≤ 6) (hst : ∀ x ∈ CL M (679 + 2 * s), stepok x) (hr : RECP M M1 p (679 + 2 * s) wd (M 739 15) (M 10 10)) (hO : LST (fun k => M 747 k) (400 * s) O) (e1 : M2 739 15 = M 739 15 + 1) (e2 : ∀ k : Int, M2 748 k = if k = M 739 15 then p else M 748 k) (e3 : EVW M M2 O (M 739 15) p wd (M 739 7)) (c1 : CSK M1 M2) (c2 : CSD M1 M2) (c3 : CSC5 M1 M2) (m1 : MSK M M2) (m3 : MSC M M2) : RWK M2 Kf ∧ RWD M2 Kf ∧ RWC M2 := by
  obtain ⟨q1, q2, q3, q4, q5⟩ := hr
  have f : ∀ a i : Int, (a = 2 ∨ a = 3 ∨ a = 10 ∨ (17 ≤ a ∧ a ≤ 118) ∨ (134 ≤ a ∧ a ≤ 137) ∨ 679 ≤ a) → M1 a i = M a i := fun a i q => q5 a i (by omega) (by omega) (by omega) (by omega) (by omega) (by omega) (by omega) (by omega) (by omega)
  have cK : CSK M M2 := ⟨fun k a b => (c1.1 k a b).trans (f 2 k (by decide)), fun k => (c1.2.1 k).trans (f 3 k (by decide)), ⟨c1.2.2.1.1.trans (f 10 9 (by decide)), c1.2.2.1.2.trans (f 10 10 (by decide))⟩, fun r j a b d => (c1.2.2.2.1 r j a b d).trans (f (17 + r) j (by omega)), fun i => (c1.2.2.2.2.1 i).trans (f 136 i (by decide)), fun i => (c1.2.2.2.2.2 i).trans (f 137 i (by decide))⟩
  refine ⟨RWK_fr hk cK m1, ?_, RWC_fr hc hs ⟨c3.1.trans (f 2 1 (by decide)), fun c a b => (c3.2 c a b).trans (CL_cg (f c 1 (by unfold isC at a; omega)) (fun k => f (c + 1) k (by unfold isC at a; omega)))⟩ m3⟩
  have key : ∀ w : Int, 0 ≤ w → w < M 739 7 → ∃ x y : Bool, M2 751 w = M 751 w + pw (M 739 15) * b2i x ∧ M2 752 w = M 752 w + pw (M 739 15) * b2i y ∧ tbI M1 (119 + M 739 15) (Kf w) = x ∧ tbI M1 (142 + M 739 15) (Kf w) = y ∧ tbI M1 (156 + M 739 15) (Kf w) = (tbI M (155 + M 739 15) (Kf w) && y) := fun w w0 w1 => by
    obtain ⟨O2, hl, -, ok, v, hv, -⟩ := hc s s0 s1
    have hO2 : O2 = O := LST_one hl hO
    rw [hO2] at hv
    have hE : OKE (evF M w (M 739 15) (M 751 w)) := evF_ok (by rw [hk.1.1.1]; omega) (by rw [hk.1.1.1]; omega) (by omega)
    have hR := RW_at hk hd hP w0 w1 ⟨hL.1, by omega⟩ (by omega) p7 hu hday
    have hin := hk.2.2.2.2 w w0 w1
    have hsz := hk.1.2
    have run := (run_RS (st := []) hR hE.1 hE.2.1 p7 ok hst).trans (hv _ [] hE).1
    obtain ⟨t1, t2, t3⟩ := q4 (Kf w / 64) (Kf w % 64).toNat _ (by omega) (by omega) (by omega) run
    obtain ⟨u1, u2⟩ := e3.1 w w0 w1 _ (hv _ [] hE).2
    have hft := ft_ok (s := v (evF M w (M 739 15) (M 751 w))) hR p0 p1 (by omega) hw p7
    refine ⟨_, _, u1, u2, t1, t2.trans hft, t3.trans ?_⟩
    rw [hft]
    rfl
  obtain ⟨⟨d1, d2⟩, d3, d4, d5, d6, d7, d8⟩ := hd
  have w7 : M2 739 7 = M 739 7 := m1.1.2.2.2
  have w10 : M2 10 10 = M 10 10 := cK.2.2.1.2
  obtain ⟨k1, k2, k3, k4, k5, k6, -⟩ := c2
  unfold RWD
  rw [e1, w7, w10]
  refine ⟨⟨by rw [k1, q1], fun k a b => ?_⟩, fun q qa qb => ?_, fun k a b j t j0 j1 ht => ?_, fun w a b => ?_, fun w k a b d e => ?_, fun w k a b d e => ?_, fun i k a b d e g => ?_⟩
  · rw [k2, q2, e2]
    by_cases x : k = M 739 15
    · rw [if_pos x, if_pos x]
    · rw [if_neg x, if_neg x]
      exact d2 k a (by omega)
  · rw [k3, q3, tpF_s hL.1, tpF_cg (u := fun k => M2 748 k) (v := fun k => M 748 k) _ (fun k hk2 => by show M2 748 k = M 748 k; rw [e2, if_neg (by omega)]), ← d3 q qa qb]
    show _ = if M2 748 (M 739 15) = q then 1 - M 11 q else M 11 q
    rw [e2, if_pos rfl]
    by_cases x : q = p
    · rw [if_pos x, if_pos x.symm]
    · rw [if_neg x, if_neg (fun y => x y.symm)]
  · rw [tb_eq (k4 k j (by omega) b), tb_eq (q5 (119 + k) j (by omega) (by omega) (by omega) (by omega) (by omega) (by omega) (by omega) (by omega) (by omega))]
    exact d4 k (by omega) b j t j0 j1 ht
  · obtain ⟨x, y, u1, u2, -⟩ := key w a b
    have h5 := d5 w a b
    rw [u1, u2]
    exact ⟨b2_b hL.1 h5.1.1 h5.1.2, b2_b hL.1 h5.2.1 h5.2.2⟩
  · obtain ⟨x, y, u1, u2, t1, t2, -⟩ := key w a b
    have h5 := d5 w a b
    rw [u1, u2, tbI_eq (M2 := M2) (M := M1) (k4 k _ d (by omega)), tbI_eq (M2 := M2) (M := M1) (k5 k _ d (by omega))]
    by_cases q : k = M 739 15
    · have b1 := b2i_b x
      have b2 := b2i_b y
      rw [q, bt_hi h5.1.1 h5.1.2 b1.1 b1.2, bt_hi h5.2.1 h5.2.2 b2.1 b2.2, b2_d, b2_d]
      exact ⟨t1, t2⟩
    · rw [bt_lo d (by omega), bt_lo d (by omega), tbI_eq (M2 := M1) (M := M) (q5 (119 + k) _ (by omega) (by omega) (by omega) (by omega) (by omega) (by omega) (by omega) (by omega) (by omega)), tbI_eq (M2 := M1) (M := M) (q5 (142 + k) _ (by omega) (by omega) (by omega) (by omega) (by omega) (by omega) (by omega) (by omega) (by omega))]
      exact d6 w k a b d (by omega)
  · obtain ⟨x, y, u1, u2, t1, t2, t3⟩ := key w a b
    have h5 := d5 w a b
    rw [u2, tbI_eq (M2 := M2) (M := M1) (k6 k _ d (by omega))]
    by_cases q : k = M 739 15 + 1
    · rw [q, lf_hi hL.1 h5.2.1 h5.2.2, show (155 : Int) + (M 739 15 + 1) = 156 + M 739 15 by omega, t3, d7 w (M 739 15) a b hL.1 (Int.le_refl _)]
    · rw [md_lo d (by omega), tbI_eq (M2 := M1) (M := M) (q5 (155 + k) _ (by omega) (by omega) (by omega) (by omega) (by omega) (by omega) (by omega) (by omega) (by omega))]
      exact d7 w k a b d (by omega)
  · rw [tbI_eq (M2 := M2) (M := M1) (k6 k _ e (by omega))]
    by_cases q : k = M 739 15 + 1
    · obtain ⟨O2, -, -, ok, v, hv, hh⟩ := hc s s0 s1
      have h0 := hh 0 (Int.le_refl _)
      obtain ⟨y, hy⟩ := runF_1 (M := M) (R0 := 17) (ta := 11) (j := i / 64) (b := (i % 64).toNat) h0.1 h0.2
      have t3 := (q4 (i / 64) (i % 64).toNat y (by omega) (by omega) (by omega) (hy [])).2.2
      have z := d8 i (M 739 15) a b d hL.1 (Int.le_refl _)
      unfold tbI at z ⊢
      rw [q, show (155 : Int) + (M 739 15 + 1) = 156 + M 739 15 by omega, t3, z, Bool.false_and]
    · rw [tbI_eq (M2 := M1) (M := M) (q5 (155 + k) _ (by omega) (by omega) (by omega) (by omega) (by omega) (by omega) (by omega) (by omega) (by omega))]
      exact d8 i k a b d e (by omega)
/-- the last EVENT goes -/
theorem RW_bk {M M1 M2 : Mm} {Kf : Int → Int} (hk : RWK M Kf) (hd : RWD M Kf) (hc : RWC M) (hL : 0 ≤ M 739 15 ∧ M 739 15 ≤ 12) (h0 : M 739 15 ≠ 0) (hs : M 739 13 ≤ 30) (r1 : M1 138 5 = M 739 15 - 1) (r2 : ∀ k : Int, M1 11 k = if k = M 139 (M 739 15 - 1) then 1 - M 11 k else M 11 k) (r3 : ∀ j : Int, M1 (118 + M 739 15) j = 0) (r4 : ∀ a i : Int, a ≠ 138 → a ≠ 11 → a ≠ 118 + M 739 15 → a ≠ 170 → M1 a i = M a i) (e1 : M2 739 15 = M 739 15 - 1) (e2 : ∀ k : Int, M2 748 k = M 748 k) (e3 : ∀ w : Int, 0 ≤ w → w < M 739 7 → M2 751 w = M 751 w % pw (M 739 15 - 1) ∧ M2 752 w = M 752 w % pw (M 739 15 - 1)) (c1 : CSK M1 M2) (c2 : CSD M1 M2) (c3 : CSC5 M1 M2) (m1 : MSK M M2) (m3 : MSC M M2) : RWK M2 Kf ∧ RWD M2 Kf ∧ RWC M2 := by
  have f : ∀ a i : Int, (a = 2 ∨ a = 3 ∨ a = 10 ∨ (17 ≤ a ∧ a ≤ 118) ∨ (134 ≤ a ∧ a ≤ 137) ∨ 679 ≤ a) → M1 a i = M a i := fun a i q => r4 a i (by omega) (by omega) (by omega) (by omega)
  have cK : CSK M M2 := ⟨fun k a b => (c1.1 k a b).trans (f 2 k (by decide)), fun k => (c1.2.1 k).trans (f 3 k (by decide)), ⟨c1.2.2.1.1.trans (f 10 9 (by decide)), c1.2.2.1.2.trans (f 10 10 (by decide))⟩, fun r j a b d => (c1.2.2.2.1 r j a b d).trans (f (17 + r) j (by omega)), fun i => (c1.2.2.2.2.1 i).trans (f 136 i (by decide)), fun i => (c1.2.2.2.2.2 i).trans (f 137 i (by decide))⟩
  refine ⟨RWK_fr hk cK m1, ?_, RWC_fr hc hs ⟨c3.1.trans (f 2 1 (by decide)), fun c a b => (c3.2 c a b).trans (CL_cg (f c 1 (by unfold isC at a; omega)) (fun k => f (c + 1) k (by unfold isC at a; omega)))⟩ m3⟩
  obtain ⟨⟨d1, d2⟩, d3, d4, d5, d6, d7, d8⟩ := hd
  have w7 : M2 739 7 = M 739 7 := m1.1.2.2.2
  have w10 : M2 10 10 = M 10 10 := cK.2.2.1.2
  obtain ⟨k1, k2, k3, k4, k5, k6, -⟩ := c2
  unfold RWD
  rw [e1, w7, w10]
  refine ⟨⟨by rw [k1, r1], fun k a b => ?_⟩, fun q qa qb => ?_, fun k a b j t j0 j1 ht => ?_, fun w a b => ?_, fun w k a b d e => ?_, fun w k a b d e => ?_, fun i k a b d e g => ?_⟩
  · rw [k2, e2, r4 139 k (by decide) (by decide) (by omega) (by decide)]
    exact d2 k a (by omega)
  · have t := tpF_s (u := fun k => M 748 k) (p := q) (v := 0) (e := M 739 15 - 1) (by omega)
    rw [show M 739 15 - 1 + 1 = M 739 15 by omega, ← d3 q qa qb] at t
    rw [k3, r2, d2 (M 739 15 - 1) (by omega) (by omega), show (fun k => M2 748 k) = (fun k => M 748 k) from funext e2, t]
    show (if q = M 748 (M 739 15 - 1) then 1 - (if M 748 (M 739 15 - 1) = q then _ else _) else (if M 748 (M 739 15 - 1) = q then _ else _)) = _
    by_cases x : q = M 748 (M 739 15 - 1)
    · rw [if_pos x, if_pos x.symm]
      omega
    · rw [if_neg x, if_neg (fun y => x y.symm)]
  · rw [tb_eq (k4 k j (by omega) b)]
    by_cases x : k = M 739 15 - 1
    · rw [x, show (119 : Int) + (M 739 15 - 1) = 118 + M 739 15 by omega]
      unfold tb
      rw [r3 j, show (0 : Int).toNat = 0 from rfl, Nat.zero_testBit]
    · rw [tb_eq (r4 (119 + k) j (by omega) (by omega) (by omega) (by omega))]
      exact d4 k (by omega) b j t j0 j1 ht
  · rw [(e3 w a b).1, (e3 w a b).2]
    exact ⟨md_b _ _, md_b _ _⟩
  · rw [(e3 w a b).1, (e3 w a b).2, md_bt d e, md_bt d e, tbI_eq (M2 := M2) (M := M1) (k4 k _ d (by omega)), tbI_eq (M2 := M2) (M := M1) (k5 k _ d (by omega)), tbI_eq (M2 := M1) (M := M) (r4 (119 + k) _ (by omega) (by omega) (by omega) (by omega)), tbI_eq (M2 := M1) (M := M) (r4 (142 + k) _ (by omega) (by omega) (by omega) (by omega))]
    exact d6 w k a b d (by omega)
  · rw [(e3 w a b).2, md_md d e, tbI_eq (M2 := M2) (M := M1) (k6 k _ d (by omega)), tbI_eq (M2 := M1) (M := M) (r4 (155 + k) _ (by omega) (by omega) (by omega) (by omega))]
    exact d7 w k a b d (by omega)
  · rw [tbI_eq (M2 := M2) (M := M1) (k6 k _ e (by omega)), tbI_eq (M2 := M1) (M := M) (r4 (155 + k) _ (by omega) (by omega) (by omega) (by omega))]
    exact d8 i k a b d e (by omega)
/-- who FITS: the class's bits, the model's WORLDS -/
theorem RW_fit {M : Mm} {Kf : Int → Int} (hk : RWK M Kf) (hd : RWD M Kf) (hL : 0 ≤ M 739 15) : KFI (fun i => decide (M 752 i = AL M)) (fun i => tbI M (155 + M 739 15) i) Kf (M 739 7) (M 10 9) := by
  obtain ⟨⟨-, hz⟩, -, -, h8, h9⟩ := hk
  obtain ⟨-, -, -, d5, -, d7, d8⟩ := hd
  refine ⟨h8, fun w a b => ⟨(h9 w a b).1, (h9 w a b).2.1, ?_⟩, fun i a b d => d8 i _ a (by omega) d hL (Int.le_refl _)⟩
  show tbI M (155 + M 739 15) (Kf w) = decide (M 752 w = AL M)
  have h5 := d5 w a b
  rw [d7 w _ a b hL (Int.le_refl _), md_eq h5.2.1 h5.2.2]
  rfl

/-! ===== a new ISLAND ===== -/
theorem nrF_inj {u v : Int → Int} {lv lv2 : Int} {F F2 : List Int} (h : nrF u lv F = nrF v lv2 F2) : (∀ k : Int, 0 ≤ k → k < 7 → u k = v k) ∧ lv = lv2 ∧ F = F2 := by
  have at_ : ∀ k : Int, nrF u lv F k = nrF v lv2 F2 k := fun k => by rw [h]
  have hl : F.length = F2.length := by
    have := at_ 8
    unfold nrF at this
    rw [if_neg (by decide), if_neg (by decide), if_pos rfl, if_neg (by decide), if_neg (by decide), if_pos rfl] at this
    omega
  refine ⟨fun k a b => ?_, ?_, ?_⟩
  · have := at_ k
    unfold nrF at this
    rw [if_pos ⟨a, b⟩, if_pos ⟨a, b⟩] at this
    exact this
  · have := at_ 7
    unfold nrF at this
    rw [if_neg (by decide), if_pos rfl, if_neg (by decide), if_pos rfl] at this
    exact this
  · refine List.ext_getElem hl fun k h1 h2 => ?_
    have := at_ (9 + k)
    unfold nrF at this
    rw [if_neg (by omega), if_neg (by omega), if_neg (by omega), if_pos (by omega), if_neg (by omega), if_neg (by omega), if_neg (by omega), if_pos (by omega), show (9 + (k : Int) - 9).toNat = k by omega, List.getD_eq_getElem?_getD, List.getD_eq_getElem?_getD, List.getElem?_eq_getElem h1, List.getElem?_eq_getElem h2] at this
    exact this
theorem al2_E {T : Int → Int} {n pp : Int} : ∀ {F : List Int} {L K : List (List Int)}, al2 (CDF T n pp) F L → al2 (CDM T n pp) F K → alE pp L K := by
  intro F
  induction F with
  | nil =>
    intro L K a b
    cases L with
    | nil =>
      cases K with
      | nil => trivial
      | cons x K => exact b.elim
    | cons x L => exact a.elim
  | cons s F ih =>
    intro L K a b
    cases L with
    | nil => exact a.elim
    | cons x L =>
      cases K with
      | nil => exact b.elim
      | cons y K => exact ⟨⟨CDF_M a.1 b.1, CDM_nz b.1⟩, ih a.2 b.2⟩
theorem HH_cg2 {u v m m2 : Int → Int} : ∀ n : Nat, (∀ k : Nat, k < n → u k = v k ∧ m k = m2 k) → HH u m n = HH v m2 n := by
  intro n
  induction n with
  | zero => intro _; rfl
  | succ n ih =>
    intro h
    show HH u m n * cT (m n) + u n = HH v m2 n * cT (m2 n) + v n
    rw [ih (fun k hk => h k (by omega)), (h n (by omega)).1, (h n (by omega)).2]
theorem PRD_cg5 {u v : Int → Int} : ∀ n : Nat, (∀ k : Nat, k < n → u k = v k) → PRD u 0 n = PRD v 0 n := by
  intro n
  induction n with
  | zero => intro _; rfl
  | succ n ih =>
    intro h
    show PRD u 0 n * cT (u (0 + n)) = PRD v 0 n * cT (v (0 + n))
    rw [ih (fun k hk => h k (by omega)), Int.zero_add, h n (by omega)]
theorem IDX_u {N R D W i r d y : Int} {u v q : Int → Int} (h : IDX N u R D W i q r d y) (e : ∀ k : Int, 0 ≤ k → k < N → v k = u k) : IDX N v R D W i q r d y := by
  obtain ⟨a, a', b1, b2, b3, b4, b5, b6, e'⟩ := h
  refine ⟨fun p p0 p1 => by rw [e p p0 p1]; exact a p p0 p1, a', b1, b2, b3, b4, b5, b6, ?_⟩
  rw [e']
  have : hq v q N = hq u q N := HH_cg2 N.toNat fun k hk => by
    have := e k (by omega) (by omega)
    exact ⟨by show rkQ (v k) (q k).toNat = rkQ (u k) (q k).toNat; rw [this], this⟩
  rw [this]
theorem EVI_u {N R D W eD0 ls i : Int} {u v : Int → Int} {e : Ev} (h : EVI N u R D W eD0 ls i e) (g : ∀ k : Int, 0 ≤ k → k < N → v k = u k) : EVI N v R D W eD0 ls i e := by
  obtain ⟨q, r, d, y, a, b⟩ := h
  exact ⟨q, r, d, y, IDX_u a g, b⟩
/-- the rows ahead of all EVENTS tell what has this number -/
theorem RS_0 {M : Mm} {pe ls n i : Int} {u : Int → Int} {R D W eD0 : Int} {e : Ev} (h : RWS M 17 136 pe ls n) (i0 : 0 ≤ i) (i1 : i < n) (i3 : i < 3008) (p0 : 0 ≤ pe) (p7 : pe ≤ 7) (hu : ∀ p : Int, 0 ≤ p → p < pe → 0 ≤ u p ∧ u p ≤ 31) (hK : IDX pe u R D W i (cdX (M 136 i)) (rdX (M 136 i)) (dyX (M 136 i) - eD0) (wdX (M 136 i))) (hD : eD0 + D ≤ 7) (hE : EVI pe u R D W eD0 ls i e) (ht : ∀ p : Int, M 11 p = 0) : RSb M 17 11 pe (i / 64) (i % 64).toNat e := by
  have hc : ∀ p : Int, 0 ≤ p → p < pe → 0 ≤ cdX (M 136 i) p ∧ cdX (M 136 i) p ≤ 5 := fun p a b => ⟨(hK.1 p a b).1, (hK.1 p a b).2.1⟩
  have hd : dyX (M 136 i) ≤ 6 := by
    have := hK.2.2.2.2.2.1
    omega
  have hS := STB_of (RWT_of h) i0 i1 i3 p0 p7 hc hd
  obtain ⟨q, r, d, y, hI, hQ, h30⟩ := hE
  obtain ⟨o1, o2, o3, o4⟩ := IDX_one hu hI hK
  have hQ2 : EVQ pe ls (cdX (M 136 i)) (rdX (M 136 i)) (dyX (M 136 i)) (wdX (M 136 i)) (fun p => M 11 p) e := by
    rw [show (fun p => M 11 p) = (fun _ => 0) from funext ht]
    exact EVQ_q hQ (fun p a b => (o1 p a (by omega)).symm) o2.symm (by omega) o4.symm
  refine RS_of hS hQ2 p7 (fun p a b => by rw [ht p]; decide) (fun k a b => ?_)
  rw [decide_eq_false (h30 k a)]
  cases e9 : tb M (17 + (102 + k)) (i / 64) (i % 64).toNat
  · rfl
  · exfalso
    obtain ⟨i2, c1, c2, c3, -⟩ := (h (102 + k) (i / 64) (i % 64).toNat (by omega) (by omega) (by omega)).mp e9
    have hk : ∀ p : Int, 0 ≤ kdC (cdX (M 136 i2) p) ∧ kdC (cdX (M 136 i2) p) ≤ 4 := fun p => kdC_b (cdX_b _ _).1
    have hr : 0 ≤ rdX (M 136 i2) ∧ rdX (M 136 i2) ≤ 3 := by unfold rdX; omega
    have hy : 0 ≤ dyX (M 136 i2) ∧ dyX (M 136 i2) ≤ 7 := by unfold dyX; omega
    have hw : 0 ≤ wdX (M 136 i2) ∧ wdX (M 136 i2) ≤ 1 := by unfold wdX; omega
    rcases c3 with ⟨p, x, y2, z⟩ | ⟨t, x, y2, z⟩ | x | x | x | x
    · have := hk p
      rcases z with z | ⟨z, -⟩ | ⟨z, -⟩ <;> omega
    · have := cnX_b (M 136 i2) t pe.toNat
      omega
    · omega
    · omega
    · omega
    · omega
/-- what the class's ISLAND leaves -/
def CIS (T : Int → Int) (n : Int) (M : Mm) : Prop := (∃ F : List Int, ISD T n (M 2 1) (M 2 2, M 2 3, M 2 5, M 2 6, nrF (fun k => M 3 k) (M 2 4) F) ∧ FLc T n (M 2 1) F (CL M 4)) ∧ M 10 9 = TOT M ∧ RWS M 17 136 (M 2 1) (M 2 4) (TOT M) ∧ (∀ i : Int, 0 ≤ i → i < TOT M → WKP M (M 136 i) (M 137 i) i) ∧ (∀ k : Int, M 11 k = 0) ∧ (∀ (j : Int) (b : Nat) (x : Bool), 0 ≤ j → j < M 10 10 → b < 64 → runF (stV M 17 11 j b) (CL M 4) [] = [x] → tb M 155 j b = x) ∧ TOT M ≤ 64 * M 10 10
theorem CIS_fr {T : Int → Int} {n : Int} {M M2 : Mm} (h : CIS T n M) (c : CSK M M2) (t : ∀ k j : Int, 0 ≤ k → k ≤ 14 → M2 (119 + k) j = M (119 + k) j) (d : ∀ k : Int, M2 11 k = M 11 k) (l : ∀ j : Int, M2 155 j = M 155 j) (e : CL M2 4 = CL M 4) (hs : ∀ x ∈ CL M 4, stepok x) : CIS T n M2 := by
  obtain ⟨⟨F, h1, h2⟩, h3, h4, h5, h6, h7, h8⟩ := h
  obtain ⟨c1, c2, ⟨c3, c4⟩, c5, c6, c7⟩ := c
  have p := fun k a b => c1 k a b
  have eT : TOT M2 = TOT M := TOT_fr c1 c2
  have rw_ : ∀ r j : Int, 0 ≤ r → r ≤ 118 → M2 (17 + r) j = M (17 + r) j := fun r j a b => by
    by_cases q : r < 102 ∨ 117 ≤ r
    · exact c5 r j a b q
    · have := t (r - 102) j (by omega) (by omega)
      rw [show (119 : Int) + (r - 102) = 17 + r by omega] at this
      exact this
  unfold CIS
  rw [eT, c3, c4, e, c1 1 (by decide) (by decide), c1 2 (by decide) (by decide), c1 3 (by decide) (by decide), c1 4 (by decide) (by decide), c1 5 (by decide) (by decide), c1 6 (by decide) (by decide), show (fun k => M2 3 k) = (fun k => M 3 k) from funext c2]
  refine ⟨⟨F, h1, h2⟩, h3, RWS_fr h4 rw_ c6, fun i a b => by rw [WKP_fr c1 c2, c6, c7]; exact h5 i a b, fun k => (d k).trans (h6 k), fun j b x a0 a1 hb hx => ?_, h8⟩
  rw [tb_eq (l j)]
  refine h7 j b x a0 a1 hb ?_
  rw [run_cg hs (fun r a b => rw_ r j a b) (fun i _ _ => d i) (fun i _ _ => by rw [h6 i]; decide)] at hx
  exact hx
/-- what the model's ISLAND leaves -/
def MIS (T : Int → Int) (n : Int) (M : Mm) : Prop := ∃ (F : List Int) (K : List (List Int)), ISD T n (M 739 1) (M 739 2, M 739 40, ltI (M 739 3), M 739 43 - 1, nrF (fun k => M 740 k) (M 739 3) F) ∧ al2 (CDM T n (M 739 1)) F K ∧ MKS M (fun k => M 740 k) (M 739 2) (M 739 41) (M 739 43) (eDq (M 739 40)) K (NMx (PRD (fun k => M 740 k) 0 (M 739 1).toNat) (M 739 2) 0 (M 739 41) 0 (M 739 43) 0) ∧ ((M 739 40 = -1 ∧ M 739 3 ≠ 0 ∧ M 739 41 = 7) ∨ (¬ (M 739 40 = -1 ∧ M 739 3 ≠ 0) ∧ M 739 41 = 1))
theorem RW_is {T : Int → Int} {n : Int} {M : Mm} (hc : CIS T n M) (hm : MIS T n M) (hs : ∀ x ∈ CL M 4, stepok x) (hu : ∀ p : Int, 0 ≤ p → p < 7 → 0 ≤ M 3 p ∧ M 3 p ≤ 31) (hw : 1 ≤ M 739 43 ∧ M 739 43 ≤ 2) (hday : -1 ≤ M 2 3 ∧ M 2 3 ≤ 6) (z5 : M 138 5 = 0) (z13 : M 0 13 = -1) (y13 : M 739 13 = 0) (y15 : M 739 15 = 0) (y21 : M 739 21 = 0) (y24 : M 739 24 = -1) (hsd : M 0 14 = M 739 25) (hsz : M 10 9 ≤ 3000) : RELW M := by
  obtain ⟨⟨F, c1, c2⟩, c3, c4, c5, c6, c7, c8⟩ := hc
  obtain ⟨F2, K, m1, m2, ⟨Kf, k1, k2, k3⟩, m4⟩ := hm
  obtain ⟨o1, o2⟩ := ISD_one c1 m1
  obtain ⟨⟨-, -⟩, p0, p7⟩ := ISD_rd c1
  have e2 : M 2 2 = M 739 2 := congrArg (fun D : Dg => D.1) o2
  have e3 : M 2 3 = M 739 40 := congrArg (fun D : Dg => D.2.1) o2
  have e5 : M 2 5 = ltI (M 739 3) := congrArg (fun D : Dg => D.2.2.1) o2
  have e6 : M 2 6 = M 739 43 - 1 := congrArg (fun D : Dg => D.2.2.2.1) o2
  obtain ⟨n1, n2, n3⟩ := nrF_inj (show nrF (fun k => M 3 k) (M 2 4) F = nrF (fun k => M 740 k) (M 739 3) F2 from congrArg (fun D : Dg => D.2.2.2.2) o2)
  have eDe : eDq (M 739 40) = eD M 2 := by
    unfold eDq eD
    rw [e3]
  have hlt : M 2 5 ≠ 0 ↔ M 739 3 ≠ 0 := by
    rw [e5]
    by_cases q : M 739 3 = 0
    · rw [ltI_0 q]; exact ⟨fun x => absurd rfl x, fun x => absurd q x⟩
    · rw [ltI_1 q]; exact ⟨fun _ => q, fun _ => by decide⟩
  have eDD : lD M 2 - eD M 2 + 1 = M 739 41 := by
    unfold lD
    rcases m4 with ⟨a, b, c⟩ | ⟨a, b⟩
    · rw [if_pos ⟨e3.trans a, hlt.mpr b⟩]
      unfold eD
      rw [if_pos (e3.trans a)]
      omega
    · rw [if_neg (fun q => a ⟨e3.symm.trans q.1, hlt.mp q.2⟩)]
      omega
  have eW : lW M 2 + 1 = M 739 43 := by
    unfold lW
    by_cases q : M 2 6 ≠ 0
    · rw [if_pos q]; omega
    · rw [if_neg q]; omega
  have u1 : ∀ k : Int, 0 ≤ k → k < M 2 1 → M 3 k = M 740 k := fun k a b => n1 k a (by omega)
  have eT : NMx (PRD (fun k => M 740 k) 0 (M 739 1).toNat) (M 739 2) 0 (M 739 41) 0 (M 739 43) 0 = TOT M := by
    rw [NM_0]
    unfold TOT
    rw [eDD, eW, ← e2, ← o1, PRD_cg5 (u := fun k => M 740 k) (v := fun k => M 3 k) _ (fun k hk => (u1 k (by omega) (by omega)).symm)]
  rw [eT] at k2 k3
  have hI : ∀ i : Int, ∀ e : Ev, EVI (M 739 1) (fun k => M 740 k) (M 739 2) (M 739 41) (M 739 43) (eDq (M 739 40)) (M 739 3) i e → EVI (M 2 1) (fun k => M 3 k) (M 2 2) (lD M 2 - eD M 2 + 1) (lW M 2 + 1) (eD M 2) (M 2 4) i e := fun i e h => by
    rw [eDD, eW, e2, n2, o1, ← eDe]
    exact EVI_u h (fun k a b => u1 k a (by omega))
  have hD : eD M 2 + (lD M 2 - eD M 2 + 1) ≤ 7 := by
    unfold lD eD
    split <;> split <;> omega
  obtain ⟨L, eL, aL⟩ := c2
  rw [← n3, ← o1] at m2
  have aE := al2_E aL m2
  have hok : ∀ x ∈ CL M 4, okx (M 2 1) x := (FLc_ok ⟨L, eL, aL⟩).1
  have left : ∀ i : Int, ∀ e : Ev, OKE e → 0 ≤ i → i < TOT M → EVI (M 2 1) (fun k => M 3 k) (M 2 2) (lD M 2 - eD M 2 + 1) (lW M 2 + 1) (eD M 2) (M 2 4) i e → tbI M 155 i = fT e K := fun i e he a b h => by
    have hR := RS_0 (u := fun k => M 3 k) c4 a b (by omega) p0 p7 (fun p x y => hu p x (by omega)) (c5 i a b).1 hD h c6
    refine c7 (i / 64) (i % 64).toNat _ (by omega) (by omega) (by omega) ?_
    rw [run_RS hR he.1 he.2.1 p7 hok hs, eL]
    exact FQ_runC he aE
  have hOK : ∀ w : Int, OKE (evF M w 0 0) := fun w => evF_ok (by omega) (by omega) (by decide)
  refine ⟨Kf, ⟨⟨⟨o1.symm, e2.symm, n2.symm, fun k a b => (n1 k a (by omega)).symm⟩, by rw [c3]; exact c8⟩, by rw [c3]; exact RWT_of c4, fun i a b => c5 i a (by rw [← c3]; exact b), k1, fun w a b => ?_⟩, ⟨⟨by rw [z5, y15], fun k a b => by omega⟩, fun p _ _ => ?_, fun k a b j t _ _ ht => ?_, fun w a b => ?_, fun w k a b d e => by omega, fun w k a b d e => ?_, fun i k a b d e f => ?_⟩, fun s a b => by omega, fun q a b => by omega, Or.inl ⟨z13, y24⟩, hsd⟩
  · obtain ⟨a1, a2, a3, -, -, -, a7⟩ := k2 w a b
    exact ⟨a1, by rw [c3]; exact a2, hI _ _ a3, fun p p0 p1 => ⟨(a7 p p0 p1).1, fun q => (a7 p p0 p1).2 (by omega)⟩⟩
  · rw [y15, c6]
    rfl
  · cases e9 : tb M (119 + k) j t
    · rfl
    · exfalso
      obtain ⟨i2, -, -, z, -⟩ := (c4 (102 + k) j t (by omega) (by omega) ht).mp (by rw [show (17 : Int) + (102 + k) = 119 + k by omega]; exact e9)
      have hk : ∀ p : Int, 0 ≤ kdC (cdX (M 136 i2) p) ∧ kdC (cdX (M 136 i2) p) ≤ 4 := fun p => kdC_b (cdX_b _ _).1
      have hr : 0 ≤ rdX (M 136 i2) ∧ rdX (M 136 i2) ≤ 3 := by unfold rdX; omega
      have hy : 0 ≤ dyX (M 136 i2) ∧ dyX (M 136 i2) ≤ 7 := by unfold dyX; omega
      have hw : 0 ≤ wdX (M 136 i2) ∧ wdX (M 136 i2) ≤ 1 := by unfold wdX; omega
      rcases z with ⟨p, x, y2, z⟩ | ⟨t, x, y2, z⟩ | x | x | x | x
      · have := hk p
        rcases z with z | ⟨z, -⟩ | ⟨z, -⟩ <;> omega
      · have := cnX_b (M 136 i2) t (M 2 1).toNat
        omega
      · omega
      · omega
      · omega
      · omega
  · obtain ⟨-, -, -, -, a4, a5, -⟩ := k2 w a b
    rw [a4, a5, y15]
    exact ⟨⟨by decide, by decide⟩, by decide, by decide⟩
  · obtain ⟨a1, a2, a3, a4, a5, a6, -⟩ := k2 w a b
    have : k = 0 := by omega
    rw [this, a6, show (155 : Int) + 0 = 155 by decide, left (Kf w) _ (hOK w) a1 a2 (hI _ _ a3), a4]
    rfl
  · have hk0 : k = 0 := by omega
    rw [hk0, show (155 : Int) + 0 = 155 by decide]
    by_cases q : i < TOT M
    · rcases k3 i a q with ⟨w, w0, w1, w2⟩ | ⟨e, he, h1, h2⟩
      · exact absurd w2 (d w w0 w1)
      · rw [left i e he a q (hI _ _ h1), h2]
    · refine c7 (i / 64) (i % 64).toNat false (by omega) (by omega) (by omega) ?_
      rw [eL]
      refine FQ_zero ?_ L K aE
      cases e9 : tb M (17 + 118) (i / 64) (i % 64).toNat
      · rfl
      · exfalso
        obtain ⟨i2, x1, x2, -, x3, x4⟩ := (c4 118 (i / 64) (i % 64).toNat (by decide) (by decide) (by omega)).mp e9
        omega

/-! ===== sentences, questions, the hidden WORLD ===== -/
theorem HFM_of {T : Int → Int} {n pe a b c d lv : Int} {u : Int → Int} {F C : List Int} (h : ISD T n pe (a, b, c, d, nrF u lv F)) (h2 : FLc T n pe F C) : HFM T n := fun pp ro da li wo lv2 u2 F2 K _ hI hK => by
  obtain ⟨o1, o2⟩ := ISD_one h hI
  obtain ⟨-, -, n3⟩ := nrF_inj (show nrF u lv F = nrF u2 lv2 F2 from congrArg (fun D : Dg => D.2.2.2.2) o2)
  obtain ⟨L, -, aL⟩ := h2
  rw [o1, n3] at aL
  exact ⟨L, al2_E aL hK⟩
theorem HFM_no {T : Int → Int} {n z pl pp : Int} (h : IO T n z pl pp) (hz : z ≠ 0) : HFM T n := fun pp2 ro da li wo lv2 u2 F2 K h3 hI _ => by
  obtain ⟨s2, s, g, r⟩ := hI
  exact absurd (IO_one h (show IO T n 0 (-1) pp2 from Or.inr ⟨s2, s, _, g, r, Or.inr ⟨h3, rfl, rfl⟩⟩)).1 hz
theorem RW_sn {T : Int → Int} {n : Int} {M M2 : Mm} (hc : RWC M) (hw : WS M) (h0 : 0 ≤ M 739 13) (e1 : M2 739 13 = M 739 13 + 1) (e2 : M2 2 1 = M 2 1) (cl : ∀ s : Int, 0 ≤ s → s < M 739 13 → CL M2 (679 + 2 * s) = CL M (679 + 2 * s)) (md : ∀ k : Int, k < 400 * M 739 13 → M2 747 k = M 747 k) (nc : CDX T n (M 2 1) (CL M2 (679 + 2 * M 739 13))) (nm : ∃ O : List Int, LST (fun k => M2 747 k) (400 * M 739 13) O ∧ CDM T n (M 2 1) (sk T n 0) O) : RWC M2 := fun s a b => by
  rw [e2]
  by_cases q : s = M 739 13
  · obtain ⟨O, x, y⟩ := nm
    rw [q]
    exact ⟨O, x, CDF_M (CDX_F nc) y⟩
  · have b2 : s < M 739 13 := by omega
    obtain ⟨O, x, y⟩ := hc s a b2
    obtain ⟨e, he, hg⟩ := hw s a b2
    have hl := LST_en x hg
    refine ⟨O, LST_cg x (fun k k0 k1 => md _ (by omega)), ?_⟩
    rw [cl s a b2]
    exact y
theorem RW_hd {M : Mm} {Kf : Int → Int} (hk : RWK M Kf) (hd : RWD M Kf) (hL : 0 ≤ M 739 15) (hn : 0 ≤ M 10 9) {i zc zm : Int} (pc : PCK (fun i => tbI M (155 + M 138 5) i) (M 10 9) i zc) (pm : PCK (fun w => decide (M 752 w = AL M)) (M 739 7) i zm) : (zc = -1 ∧ zm = -1) ∨ (0 ≤ zm ∧ zm < M 739 7 ∧ zc = Kf zm ∧ 0 ≤ zc) := by
  rw [hd.1.1] at pc
  have h := RW_fit hk hd hL
  have e := KF_two h hn pm pc
  by_cases q : zm = -1
  · rw [if_pos q] at e
    exact Or.inl ⟨e, q⟩
  · rw [if_neg q] at e
    rcases pm with ⟨a, -⟩ | ⟨a, b, -⟩
    · exact absurd a q
    · exact Or.inr ⟨a, b, e, by rw [e]; exact (h.2.1 zm a b).1⟩
/-- the KIND of one in a WORLD -/
theorem RW_kd {M : Mm} {Kf : Int → Int} (hk : RWK M Kf) {w p : Int} (w0 : 0 ≤ w) (w1 : w < M 739 7) (p0 : 0 ≤ p) (p1 : p < M 2 1) (p7 : M 2 1 ≤ 7) (hu : ∀ p : Int, 0 ≤ p → p < 7 → 0 ≤ M 3 p ∧ M 3 p ≤ 31) : kiF M w p = kdC (cdX (M 136 (Kf w)) p) ∧ 0 ≤ Kf w ∧ Kf w < M 10 9 := by
  obtain ⟨-, -, h7, -, h9⟩ := hk
  obtain ⟨a, b, ⟨q, r, d, y, hI, hQ, -⟩, -⟩ := h9 w w0 w1
  obtain ⟨o1, -⟩ := IDX_one (fun p x y => hu p x (by omega)) hI (h7 (Kf w) a b).1
  have k := hQ.1 p p0 p1
  rw [evF_k (by omega)] at k
  have c := hQ.2.2.2.2.2.2 p p0 p1
  refine ⟨?_, a, b⟩
  rw [k, ← o1 p p0 (by omega), kdC_Q c.2]
/-- what the hidden WORLD answers -/
theorem RW_rp {M M1 M2 : Mm} {Kf : Int → Int} {p s w zc zm : Int} {O : List Int} (hk : RWK M Kf) (hd : RWD M Kf) (hc : RWC M) (hP : Pw M) (hL : 0 ≤ M 739 15 ∧ M 739 15 ≤ 12) (p0 : 0 ≤ p) (p1 : p < M 2 1) (p7 : M 2 1 ≤ 7) (s0 : 0 ≤ s) (s1 : s < M 739 13) (hu : ∀ p : Int, 0 ≤ p → p < 7 → 0 ≤ M 3 p ∧ M 3 p ≤ 31) (hday : -1 ≤ M 2 3 ∧ M 2 3 ≤ 6) (hst : ∀ x ∈ CL M (679 + 2 * s), stepok x) (hO : LST (fun k => M 747 k) (400 * s) O) (w0 : 0 ≤ w) (w1 : w < M 739 7) (hsd : M 0 14 = M 739 25)
    (pc : (kdC (cdX (M 136 (Kf w)) p) = 4 ∧ M1 0 14 = SDN (M 0 14) ∧ zc = M1 0 14 / 65536 % 2) ∨ (kdC (cdX (M 136 (Kf w)) p) ≠ 4 ∧ M1 0 14 = M 0 14 ∧ ∀ x : Bool, runF (stV M 17 11 (Kf w / 64) (Kf w % 64).toNat) (CL M (679 + 2 * s)) [] = [x] → zc = 1 - b2i (ftV M 17 11 p 0 (Kf w / 64) x (Kf w % 64).toNat)))
    (pm : ∀ b, runR (evF M w (M 739 15) (M 751 w)) O [] = [b] → (lyF M w p (M 739 15) = 2 ∧ M2 739 25 = SDN (M 739 25) ∧ zm = M2 739 25 / 65536 % 2) ∨ (lyF M w p (M 739 15) ≠ 2 ∧ M2 739 25 = M 739 25 ∧ zm = 1 - b2i (csV (evF M w (M 739 15) (M 751 w)) p 0 b))) : zc = zm ∧ M1 0 14 = M2 739 25 := by
  obtain ⟨O2, hl, -, ok, v, hv, -⟩ := hc s s0 s1
  have hO2 : O2 = O := LST_one hl hO
  rw [hO2] at hv
  have hE : OKE (evF M w (M 739 15) (M 751 w)) := evF_ok (by rw [hk.1.1.1]; omega) (by rw [hk.1.1.1]; omega) (by omega)
  have hR := RW_at hk hd hP w0 w1 hL (by omega) p7 hu hday
  obtain ⟨hkd, -, -⟩ := RW_kd hk w0 w1 p0 p1 p7 hu
  have run := (run_RS (st := []) hR hE.1 hE.2.1 p7 ok hst).trans (hv _ [] hE).1
  have h5 := hR.2.2.2.2 p p0 p1
  rw [evF_20 p0 (by omega), evF_k (by omega), hkd] at h5
  have hft := ft_ok (s := v (evF M w (M 739 15) (M 751 w))) hR p0 p1 (by omega) (Or.inr (Or.inl rfl)) p7
  rcases pm _ (hv _ [] hE).2 with ⟨a, b, c⟩ | ⟨a, b, c⟩ <;> rcases pc with ⟨a2, b2, c2⟩ | ⟨a2, b2, c2⟩
  · have e : M1 0 14 = M2 739 25 := by rw [b2, b, hsd]
    exact ⟨by rw [c, c2, e], e⟩
  · exact absurd (h5.2.2.1.mp a) a2
  · exact absurd (h5.2.2.1.mpr a2) a
  · have e : M1 0 14 = M2 739 25 := by rw [b2, b, hsd]
    exact ⟨by rw [c, c2 _ run, hft], e⟩
theorem RW_qn {M M2 : Mm} {Kf : Int → Int} {p s : Int} (h : RWQ M Kf) (h0 : 0 ≤ M 739 21) (p0 : 0 ≤ p) (p1 : p < M 2 1) (s0 : 0 ≤ s) (s1 : s < M 739 13) (e1 : M2 739 21 = M 739 21 + 1) (e2 : ∀ k : Int, M2 169 k = if k = M 739 21 then 30 * p + s else M 169 k) (e3 : ∀ k : Int, M2 753 k = if k = M 739 21 then p else M 753 k) (e4 : ∀ k : Int, M2 754 k = if k = M 739 21 then s else M 754 k) (c1 : M2 2 1 = M 2 1) (c2 : M2 0 13 = M 0 13) (c3 : M2 0 14 = M 0 14) (m1 : M2 739 13 = M 739 13) (m2 : M2 739 24 = M 739 24) (m3 : M2 739 25 = M 739 25) (m4 : M2 739 7 = M 739 7) : RWQ M2 Kf := by
  obtain ⟨h1, h2, h3⟩ := h
  unfold RWQ
  rw [c1, c2, c3, m1, m2, m3, m4, e1]
  refine ⟨fun q a b => ?_, h2, h3⟩
  rw [e2, e3, e4]
  by_cases x : q = M 739 21
  · rw [if_pos x, if_pos x, if_pos x]
    exact ⟨rfl, p0, p1, s0, s1⟩
  · rw [if_neg x, if_neg x, if_neg x]
    exact h1 q a (by omega)

def fg_CK : Nat := 33063482909115424964608
def fg_CD : Nat := 100345579229555146427990016
def fg_CC : Nat := 4833935360
def fg_CQ : Nat := 309485009821345068726927360
def fg_MK : Nat := 431359146674410236716332507252321996493273696730614857207986903356276736
def fg_MK8 : Nat := 1314782679063602401507981257623781254407015645168424336268790004002586624
def fg_MD : Nat := 22085588309729804120175839222179580507021376041001515746236889971627655168
def fg_MC : Nat := 441711766194596082491605346489847682604267663415799063506572745459630080
def fg_MQ : Nat := 84808659109362448433093773930996377001293675172618979235121045405547102208
/-! ===== what holds, through frames ===== -/
theorem Sm_tr {g : Nat} {M M1 M2 : Mm} (h : Sm g M M1) (h2 : Sm g M1 M2) : Sm g M M2 := fun a i q => (h2 a i q).trans (h a i q)
theorem CSK_sm {M M2 : Mm} (h : Sm fg_CK M M2) : CSK M M2 := ⟨fun k a b => by
  have : k = 0 ∨ k = 1 ∨ k = 2 ∨ k = 3 ∨ k = 4 ∨ k = 5 ∨ k = 6 := by omega
  rcases this with rfl | rfl | rfl | rfl | rfl | rfl | rfl
  · exact h.at g_2_0 rfl
  · exact h.at g_2_1 rfl
  · exact h.at g_2_2 rfl
  · exact h.at g_2_3 rfl
  · exact h.at g_2_4 rfl
  · exact h.at g_2_5 rfl
  · exact h.at g_2_6 rfl, fun k => h.at (gr_3 (by decide) (by decide) k) rfl, ⟨h.at g_10_9 rfl, h.at g_10_10 rfl⟩, fun r j a b _ => h.at (gr_17 (by omega) (by omega) j) rfl, fun i => h.at (gr_136 (by decide) (by decide) i) rfl, fun i => h.at (gr_137 (by decide) (by decide) i) rfl⟩
theorem CSD_sm {M M2 : Mm} (h : Sm fg_CD M M2) : CSD M M2 := ⟨h.at g_138_5 rfl, fun k => h.at (gr_139 (by decide) (by decide) k) rfl, fun k => h.at (gr_11 (by decide) (by decide) k) rfl, fun k j a b => h.at (gr_17 (by omega) (by omega) j) rfl, fun k j a b => h.at (gr_142 (by omega) (by omega) j) rfl, fun k j a b => h.at (gr_155 (by omega) (by omega) j) rfl, h.at g_10_10 rfl⟩
theorem CSC_sm {M M2 : Mm} (h : Sm fg_CC M M2) : CSC5 M M2 := ⟨h.at g_2_1 rfl, fun c hc _ => CL_cg (h.at (g_c1 hc) rfl) (fun k => h.at (g_cs hc k) rfl)⟩
theorem CL4_sm {M M2 : Mm} (h : Sm fg_CC M M2) : CL M2 4 = CL M 4 := CL_cg (h.at (g_c1 (Or.inl rfl)) rfl) (fun k => h.at (g_cs (Or.inl rfl) k) rfl)
theorem CSQ_sm {M M2 : Mm} (h : Sm fg_CQ M M2) : CSQ M M2 := ⟨h.at g_2_1 rfl, fun k => h.at (gr_169 (by decide) (by decide) k) rfl, h.at g_0_13 rfl, h.at g_0_14 rfl⟩
theorem MK5_sm {M M2 : Mm} (h : Sm fg_MK M M2) : (M2 739 1 = M 739 1 ∧ M2 739 2 = M 739 2 ∧ M2 739 3 = M 739 3 ∧ M2 739 7 = M 739 7) ∧ (∀ k : Int, M2 740 k = M 740 k) ∧ ∀ a w : Int, (a = 742 ∨ a = 743 ∨ a = 744 ∨ a = 745 ∨ a = 746) → M2 a w = M a w := ⟨⟨h.at g_739_1 rfl, h.at g_739_2 rfl, h.at g_739_3 rfl, h.at g_739_7 rfl⟩, fun k => h.at (gr_740 (by decide) (by decide) k) rfl, fun a w q => by
  rcases q with rfl | rfl | rfl | rfl | rfl
  · exact h.at (gr_742 (by decide) (by decide) w) rfl
  · exact h.at (gr_743 (by decide) (by decide) w) rfl
  · exact h.at (gr_744 (by decide) (by decide) w) rfl
  · exact h.at (gr_745 (by decide) (by decide) w) rfl
  · exact h.at (gr_746 (by decide) (by decide) w) rfl⟩
theorem MSK_8 {M M2 : Mm} (h : Sm fg_MK M M2) (h8 : ∀ k : Int, k < 0 → M2 748 k = M 748 k) : MSK M M2 := ⟨(MK5_sm h).1, (MK5_sm h).2.1, (MK5_sm h).2.2, h8⟩
theorem MSK_sm {M M2 : Mm} (h : Sm fg_MK8 M M2) : MSK M M2 := MSK_8 (fun a i q => h a i (by
  have e : fg_MK8 = fg_MK ||| fg_MK8 := rfl
  rw [e, Nat.testBit_or, q, Bool.true_or])) (fun k _ => h.at (gr_748 (by decide) (by decide) k) rfl)
theorem MSD_sm {M M2 : Mm} (h : Sm fg_MD M M2) : MSD M M2 := ⟨h.at g_739_15 rfl, h.at g_739_7 rfl, fun k _ _ => h.at (gr_748 (by decide) (by decide) k) rfl, fun w _ _ => ⟨h.at (gr_751 (by decide) (by decide) w) rfl, h.at (gr_752 (by decide) (by decide) w) rfl⟩⟩
theorem MSC_sm {M M2 : Mm} (h : Sm fg_MC M M2) : MSC M M2 := ⟨h.at g_739_13 rfl, fun k => h.at (gr_747 (by decide) (by decide) k) rfl⟩
theorem MSQ_sm {M M2 : Mm} (h : Sm fg_MQ M M2) : MSQ M M2 := ⟨h.at g_739_13 rfl, h.at g_739_21 rfl, h.at g_739_24 rfl, h.at g_739_25 rfl, h.at g_739_7 rfl, fun k => h.at (gr_753 (by decide) (by decide) k) rfl, fun k => h.at (gr_754 (by decide) (by decide) k) rfl⟩
/-- what the machine's bounds say -/
def RB5 (M : Mm) : Prop := (-1 ≤ M 2 1 ∧ M 2 1 ≤ 7) ∧ (∀ p : Int, 0 ≤ p → p < 7 → 0 ≤ M 3 p ∧ M 3 p ≤ 31) ∧ (-1 ≤ M 2 3 ∧ M 2 3 ≤ 6) ∧ (0 ≤ M 739 13 ∧ M 739 13 ≤ 30) ∧ (0 ≤ M 739 15 ∧ M 739 15 ≤ 12) ∧ (0 ≤ M 10 9 ∧ M 10 9 ≤ 3000) ∧ 0 ≤ M 739 21 ∧ (∀ s : Int, 0 ≤ s → s < 30 → ∀ x ∈ CL M (679 + 2 * s), stepok x) ∧ (∀ x ∈ CL M 4, stepok x) ∧ 1 ≤ M 739 43 ∧ M 739 43 ≤ 2
/-- a call that changes nothing of it -/
theorem R5_c {M M2 : Mm} (h : RELW M) (hB : RB5 M) (c1 : CSK M M2) (c2 : CSD M M2) (c3 : CSC5 M M2) (c4 : CSQ M M2) (m : Sm fg_MK8 M M2) (m2 : Sm fg_MD M M2) (m3 : Sm fg_MC M M2) (m4 : Sm fg_MQ M M2) : RELW M2 := RELW_fr h hB.2.2.2.2.1 hB.2.2.2.1.2 c1 c2 c3 c4 (MSK_sm m) (MSD_sm m2) (MSC_sm m3) (MSQ_sm m4)
theorem R5_2 {M M1 M2 : Mm} (h : RELW M) (hB : RB5 M) (hB1 : RB5 M1) (a1 : Sm fg_CK M M1) (a2 : Sm fg_CD M M1) (a3 : Sm fg_CC M M1) (a4 : Sm fg_CQ M M1) (a5 : Sm fg_MK8 M M1) (a6 : Sm fg_MD M M1) (a7 : Sm fg_MC M M1) (a8 : Sm fg_MQ M M1) (c1 : Sm fg_CK M1 M2) (c2 : Sm fg_CD M1 M2) (c3 : Sm fg_CC M1 M2) (c4 : Sm fg_CQ M1 M2) (m : MSK M1 M2) (m2 : MSD M1 M2) (m3 : MSC M1 M2) (m4 : MSQ M1 M2) : RELW M2 :=
  RELW_fr (R5_c h hB (CSK_sm a1) (CSD_sm a2) (CSC_sm a3) (CSQ_sm a4) a5 a6 a7 a8) hB1.2.2.2.2.1 hB1.2.2.2.1.2 (CSK_sm c1) (CSD_sm c2) (CSC_sm c3) (CSQ_sm c4) m m2 m3 m4
theorem ev_rows {M M1 : Mm} (a5 : Sm fg_MK8 M M1) (a6 : Sm fg_MD M M1) : ∀ a i : Int, (a = 742 ∨ a = 743 ∨ a = 744 ∨ a = 745 ∨ a = 746 ∨ a = 748 ∨ a = 751 ∨ a = 752) → M1 a i = M a i := fun a i q => by
  rcases q with rfl | rfl | rfl | rfl | rfl | rfl | rfl | rfl
  · exact a5.at (gr_742 (by decide) (by decide) i) rfl
  · exact a5.at (gr_743 (by decide) (by decide) i) rfl
  · exact a5.at (gr_744 (by decide) (by decide) i) rfl
  · exact a5.at (gr_745 (by decide) (by decide) i) rfl
  · exact a5.at (gr_746 (by decide) (by decide) i) rfl
  · exact a5.at (gr_748 (by decide) (by decide) i) rfl
  · exact a6.at (gr_751 (by decide) (by decide) i) rfl
  · exact a6.at (gr_752 (by decide) (by decide) i) rfl
/-- an EVENT more on both sides -/
theorem R5_ev {M Mp M1 M2 : Mm} {Kf : Int → Int} {p s wd : Int} {O : List Int} (hk : RWK M Kf) (hd : RWD M Kf) (hc : RWC M) (hB : RB5 M) (hP : Pw M) (hr : RECP M Mp p (679 + 2 * s) wd (M 138 5) (M 10 10)) (hlt : M 138 5 < 12) (p0 : 0 ≤ p) (p1 : p < M 2 1) (s0 : 0 ≤ s) (s1 : s < M 739 13) (hw : wd = -1 ∨ wd = 0 ∨ wd = 1) (hO : LST (fun k => M 747 k) (400 * s) O) (a5 : Sm fg_MK8 M M1) (a6 : Sm fg_MD M M1) (a7 : Sm fg_MC M M1) (u1 : Sm fg_CK Mp M1) (u2 : Sm fg_CD Mp M1) (u3 : Sm fg_CC Mp M1) (c1 : Sm fg_CK M1 M2) (c2 : Sm fg_CD M1 M2) (c3 : Sm fg_CC M1 M2) (m1 : Sm fg_MK M1 M2) (m3 : Sm fg_MC M1 M2) (e1 : M2 739 15 = M1 739 15 + 1) (e2 : ∀ k : Int, M2 748 k = if k = M1 739 15 then p else M1 748 k) (e3 : EVW M1 M2 O (M1 739 15) p wd (M1 739 7)) : RWK M2 Kf ∧ RWD M2 Kf ∧ RWC M2 := by
  have w15 : M1 739 15 = M 739 15 := a6.at g_739_15 rfl
  have w7 : M1 739 7 = M 739 7 := a6.at g_739_7 rfl
  have hL := hd.1.1
  have hB5 := hB.2.2.2.2.1
  rw [hL] at hr hlt
  have er := ev_rows a5 a6
  rw [w15] at e1 e2 e3
  rw [w7] at e3
  have e2' : ∀ k : Int, M2 748 k = if k = M 739 15 then p else M 748 k := fun k => by rw [e2 k, er 748 k (by decide)]
  have mk : Sm fg_MK M M2 := fun a i q => (m1 a i q).trans (a5 a i (by
    have e : fg_MK8 = fg_MK ||| fg_MK8 := rfl
    rw [e, Nat.testBit_or, q, Bool.true_or]))
  exact RW_ev hk hd hc hP ⟨hB5.1, by omega⟩ hB.2.2.2.1.2 p0 p1 hB.1.2 s0 s1 hw hB.2.1 hB.2.2.1 (hB.2.2.2.2.2.2.2.1 s s0 (by have := hB.2.2.2.1.2; omega)) hr hO e1 e2' (EVW_bs e3 er (a5.at g_739_1 rfl) (a5.at g_739_3 rfl)) (CSK_sm (Sm_tr u1 c1)) (CSD_sm (Sm_tr u2 c2)) (CSC_sm (Sm_tr u3 c3)) (MSK_8 mk (fun k hk2 => by rw [e2' k, if_neg (by omega)])) (MSC_sm (Sm_tr a7 m3))
theorem RWC_ex {M : Mm} (h : RWC M) (s : Int) : ∃ O : List Int, 0 ≤ s → s < M 739 13 → LST (fun k => M 747 k) (400 * s) O := by
  by_cases q : 0 ≤ s ∧ s < M 739 13
  · obtain ⟨O, x, -⟩ := h s q.1 q.2
    exact ⟨O, fun _ _ => x⟩
  · exact ⟨[], fun a b => absurd ⟨a, b⟩ q⟩
theorem RELW_all {M M1 : Mm} (h : RELW M) (hB : RB5 M) (e : ∀ a i : Int, 0 ≤ a → M1 a i = M a i) : RELW M1 := RELW_fr h hB.2.2.2.2.1 hB.2.2.2.1.2
  ⟨fun k _ _ => e 2 k (by decide), fun k => e 3 k (by decide), ⟨e 10 9 (by decide), e 10 10 (by decide)⟩, fun r j _ _ _ => e _ j (by omega), fun i => e 136 i (by decide), fun i => e 137 i (by decide)⟩
  ⟨e 138 5 (by decide), fun k => e 139 k (by decide), fun k => e 11 k (by decide), fun k j _ _ => e _ j (by omega), fun k j _ _ => e _ j (by omega), fun k j _ _ => e _ j (by omega), e 10 10 (by decide)⟩
  ⟨e 2 1 (by decide), fun c hc _ => CL_cg (e c 1 (by unfold isC at hc; omega)) (fun k => e (c + 1) k (by unfold isC at hc; omega))⟩
  ⟨e 2 1 (by decide), fun k => e 169 k (by decide), e 0 13 (by decide), e 0 14 (by decide)⟩
  ⟨⟨e 739 1 (by decide), e 739 2 (by decide), e 739 3 (by decide), e 739 7 (by decide)⟩, fun k => e 740 k (by decide), fun a w q => e a w (by omega), fun k _ => e 748 k (by decide)⟩
  ⟨e 739 15 (by decide), e 739 7 (by decide), fun k _ _ => e 748 k (by decide), fun w _ _ => ⟨e 751 w (by decide), e 752 w (by decide)⟩⟩
  ⟨e 739 13 (by decide), fun k => e 747 k (by decide)⟩
  ⟨e 739 13 (by decide), e 739 21 (by decide), e 739 24 (by decide), e 739 25 (by decide), e 739 7 (by decide), fun k => e 753 k (by decide), fun k => e 754 k (by decide)⟩
def MALL (M M2 : Mm) : Prop := ∀ a i : Int, a ≠ 739 ∨ i ≠ 0 → M2 a i = M a i
theorem RELW_m0 {M M1 : Mm} (h : RELW M) (hB : RB5 M) (e : MALL M M1) : RELW M1 := RELW_fr h hB.2.2.2.2.1 hB.2.2.2.1.2
  ⟨fun k _ _ => e 2 k (Or.inl (by decide)), fun k => e 3 k (Or.inl (by decide)), ⟨e 10 9 (Or.inl (by decide)), e 10 10 (Or.inl (by decide))⟩, fun r j _ _ _ => e _ j (Or.inl (by omega)), fun i => e 136 i (Or.inl (by decide)), fun i => e 137 i (Or.inl (by decide))⟩
  ⟨e 138 5 (Or.inl (by decide)), fun k => e 139 k (Or.inl (by decide)), fun k => e 11 k (Or.inl (by decide)), fun k j _ _ => e _ j (Or.inl (by omega)), fun k j _ _ => e _ j (Or.inl (by omega)), fun k j _ _ => e _ j (Or.inl (by omega)), e 10 10 (Or.inl (by decide))⟩
  ⟨e 2 1 (Or.inl (by decide)), fun c hc _ => CL_cg (e c 1 (Or.inl (by unfold isC at hc; omega))) (fun k => e (c + 1) k (Or.inl (by unfold isC at hc; omega)))⟩
  ⟨e 2 1 (Or.inl (by decide)), fun k => e 169 k (Or.inl (by decide)), e 0 13 (Or.inl (by decide)), e 0 14 (Or.inl (by decide))⟩
  ⟨⟨e 739 1 (Or.inr (by decide)), e 739 2 (Or.inr (by decide)), e 739 3 (Or.inr (by decide)), e 739 7 (Or.inr (by decide))⟩, fun k => e 740 k (Or.inl (by decide)), fun a w q => e a w (Or.inl (by omega)), fun k _ => e 748 k (Or.inl (by decide))⟩
  ⟨e 739 15 (Or.inr (by decide)), e 739 7 (Or.inr (by decide)), fun k _ _ => e 748 k (Or.inl (by decide)), fun w _ _ => ⟨e 751 w (Or.inl (by decide)), e 752 w (Or.inl (by decide))⟩⟩
  ⟨e 739 13 (Or.inr (by decide)), fun k => e 747 k (Or.inl (by decide))⟩
  ⟨e 739 13 (Or.inr (by decide)), e 739 21 (Or.inr (by decide)), e 739 24 (Or.inr (by decide)), e 739 25 (Or.inr (by decide)), e 739 7 (Or.inr (by decide)), fun k => e 753 k (Or.inl (by decide)), fun k => e 754 k (Or.inl (by decide))⟩
theorem RELW_o {M M1 : Mm} {v : Int} (h : RELW M) (hB : RB5 M) (e : M1 = mUp M 769 0 v) : RELW M1 := by
  have f : ∀ a i : Int, a ≠ 769 → M1 a i = M a i := fun a i q => by rw [e, mUp_ne (Or.inl q)]
  exact RELW_fr h hB.2.2.2.2.1 hB.2.2.2.1.2
    ⟨fun k _ _ => f 2 k (by decide), fun k => f 3 k (by decide), ⟨f 10 9 (by decide), f 10 10 (by decide)⟩, fun r j _ _ _ => f _ j (by omega), fun i => f 136 i (by decide), fun i => f 137 i (by decide)⟩
    ⟨f 138 5 (by decide), fun k => f 139 k (by decide), fun k => f 11 k (by decide), fun k j _ _ => f _ j (by omega), fun k j _ _ => f _ j (by omega), fun k j _ _ => f _ j (by omega), f 10 10 (by decide)⟩
    ⟨f 2 1 (by decide), fun c hc _ => CL_cg (f c 1 (by unfold isC at hc; omega)) (fun k => f (c + 1) k (by unfold isC at hc; omega))⟩
    ⟨f 2 1 (by decide), fun k => f 169 k (by decide), f 0 13 (by decide), f 0 14 (by decide)⟩
    ⟨⟨f 739 1 (by decide), f 739 2 (by decide), f 739 3 (by decide), f 739 7 (by decide)⟩, fun k => f 740 k (by decide), fun a w q => f a w (by omega), fun k _ => f 748 k (by decide)⟩
    ⟨f 739 15 (by decide), f 739 7 (by decide), fun k _ _ => f 748 k (by decide), fun w _ _ => ⟨f 751 w (by decide), f 752 w (by decide)⟩⟩
    ⟨f 739 13 (by decide), fun k => f 747 k (by decide)⟩
    ⟨f 739 13 (by decide), f 739 21 (by decide), f 739 24 (by decide), f 739 25 (by decide), f 739 7 (by decide), fun k => f 753 k (by decide), fun k => f 754 k (by decide)⟩
theorem Sm_o {g k : Nat} {M M1 : Mm} {v : Int} (e : M1 = mUp M 769 0 v) (hg : grp 769 0 = k) (hb : Nat.testBit g k = false) : Sm g M M1 := Sm.up e hg hb

/-! ===== says, answers ===== -/
theorem R5_says {M M1 M2 : Mm} {p s wd z1 z2 : Int} {O : List Int} {bad : Prop} (h : RELW M) (hB : RB5 M) (hB1 : RB5 M1) (hP : Pw M) (hw : ¬ bad → wd = -1 ∨ wd = 0 ∨ wd = 1) (hg : ¬ bad → 0 ≤ p ∧ p < M 2 1 ∧ 0 ≤ s ∧ s < M 739 13)
    (hC : (bad ∧ ∀ a i : Int, 0 ≤ a → M1 a i = M a i) ∨ (¬ bad ∧ ∃ (v : Int) (Mp : Mm), M1 = mUp Mp 769 0 v ∧ RB5 Mp ∧ ((M 138 5 = 12 ∧ z1 = -1 ∧ ∀ a i : Int, Mp a i = M a i) ∨ (M 138 5 < 12 ∧ z1 = M 138 5 ∧ RECP M Mp p (679 + 2 * s) wd (M 138 5) (M 10 10)))))
    (a4 : Sm fg_CQ M M1) (a5 : Sm fg_MK8 M M1) (a6 : Sm fg_MD M M1) (a7 : Sm fg_MC M M1) (a8 : Sm fg_MQ M M1)
    (hM : (bad ∧ M2 739 0 = 1 ∧ MALL M1 M2) ∨ (¬ bad ∧ M2 739 0 = 0 ∧ ((M1 739 15 = 12 ∧ z2 = -1 ∧ MALL M1 M2) ∨ (M1 739 15 ≠ 12 ∧ z2 = M1 739 15 ∧ M2 739 15 = M1 739 15 + 1 ∧ (∀ k : Int, M2 748 k = if k = M1 739 15 then p else M1 748 k) ∧ EVW M1 M2 O (M1 739 15) p wd (M1 739 7)))))
    (c1 : Sm fg_CK M1 M2) (c2 : Sm fg_CD M1 M2) (c3 : Sm fg_CC M1 M2) (c4 : Sm fg_CQ M1 M2) (m1 : Sm fg_MK M1 M2) (m3 : Sm fg_MC M1 M2) (m4 : Sm fg_MQ M1 M2) (hO : 0 ≤ s → s < M 739 13 → LST (fun k => M 747 k) (400 * s) O) (g769 : ∃ k, grp 769 0 = k ∧ Nat.testBit fg_CK k = false ∧ Nat.testBit fg_CD k = false ∧ Nat.testBit fg_CC k = false) :
    RELW M2 ∧ ((bad ∧ M2 739 0 = 1) ∨ (¬ bad ∧ M2 739 0 = 0 ∧ z1 = z2)) := by
  obtain ⟨gk, g0, g1, g2, g3⟩ := g769
  have hL : M 138 5 = M 739 15 := by
    obtain ⟨Kf, -, hd, -⟩ := h
    exact hd.1.1
  have w15 : M1 739 15 = M 739 15 := a6.at g_739_15 rfl
  rcases hC with ⟨b, e⟩ | ⟨b, v, Mp, e, hBp, hc⟩
  · rcases hM with ⟨-, t, f⟩ | ⟨b2, -⟩
    · exact ⟨RELW_m0 (RELW_all h hB e) hB1 f, Or.inl ⟨b, t⟩⟩
    · exact absurd b b2
  · rcases hM with ⟨b2, -⟩ | ⟨-, t, hm⟩
    · exact absurd b2 b
    · rcases hc with ⟨x1, x2, x3⟩ | ⟨x1, x2, x3⟩
      · rcases hm with ⟨y1, y2, y3⟩ | ⟨y1, -⟩
        · exact ⟨RELW_m0 (RELW_o (RELW_all h hB (fun a i _ => x3 a i)) hBp e) hB1 y3, Or.inr ⟨b, t, by omega⟩⟩
        · exact absurd (show M1 739 15 = 12 by omega) y1
      · rcases hm with ⟨y1, -⟩ | ⟨y1, y2, y3, y4, y5⟩
        · exfalso; omega
        · obtain ⟨Kf, hk, hd, hc, hq⟩ := h
          obtain ⟨q0, q1, q2, q3⟩ := hg b
          obtain ⟨r1, r2, r3⟩ := R5_ev hk hd hc hB hP x3 x1 q0 q1 q2 q3 (hw b) (hO q2 q3) a5 a6 a7 (Sm_o e g0 g1) (Sm_o e g0 g2) (Sm_o e g0 g3) c1 c2 c3 m1 m3 y3 y4 y5
          exact ⟨⟨Kf, r1, r2, r3, RWQ_fr hq (CSQ_sm (Sm_tr a4 c4)) (MSQ_sm (Sm_tr a8 m4))⟩, Or.inr ⟨b, t, by omega⟩⟩
/-! ===== back ===== -/
theorem R5_back {M M1 M2 : Mm} {z1 z2 : Int} (h : RELW M) (hB : RB5 M) (hB1 : RB5 M1)
    (hC : (M 138 5 = 0 ∧ z1 = -1 ∧ ∀ a i : Int, M1 a i = M a i) ∨ (M 138 5 ≠ 0 ∧ z1 = M 138 5 - 1 ∧ M1 138 5 = M 138 5 - 1 ∧ (∀ k : Int, M1 11 k = if k = M 139 (M 138 5 - 1) then 1 - M 11 k else M 11 k) ∧ (∀ j : Int, M1 (118 + M 138 5) j = 0) ∧ ∀ a i : Int, a ≠ 138 → a ≠ 11 → a ≠ 118 + M 138 5 → a ≠ 170 → M1 a i = M a i))
    (hM : (M1 739 15 = 0 ∧ z2 = -1 ∧ M2 739 15 = 0 ∧ ∀ a i : Int, a ≠ 739 ∨ i ≠ 0 → M2 a i = M1 a i) ∨ (M1 739 15 ≠ 0 ∧ z2 = M1 739 15 - 1 ∧ M2 739 15 = M1 739 15 - 1 ∧ ∀ w : Int, 0 ≤ w → w < M1 739 7 → M2 751 w = M1 751 w % pw (M1 739 15 - 1) ∧ M2 752 w = M1 752 w % pw (M1 739 15 - 1)))
    (a4 : Sm fg_CQ M M1) (c1 : Sm fg_CK M1 M2) (c2 : Sm fg_CD M1 M2) (c3 : Sm fg_CC M1 M2) (c4 : Sm fg_CQ M1 M2) (m1 : Sm fg_MK8 M1 M2) (m3 : Sm fg_MC M1 M2) (m4 : Sm fg_MQ M1 M2) : RELW M2 ∧ z1 = z2 := by
  have hL : M 138 5 = M 739 15 := by
    obtain ⟨Kf, -, hd, -⟩ := h
    exact hd.1.1
  rcases hC with ⟨x1, x2, x3⟩ | ⟨x1, x2, x3, x4, x5, x6⟩
  · rcases hM with ⟨y1, y2, y3, y4⟩ | ⟨y1, -⟩
    · exact ⟨RELW_m0 (RELW_all h hB (fun a i _ => x3 a i)) hB1 y4, by omega⟩
    · have := x3 739 15
      exact absurd (show M1 739 15 = 0 by omega) y1
  · have w15 : M1 739 15 = M 739 15 := x6 739 15 (by decide) (by decide) (by have := hB.2.2.2.2.1; omega) (by decide)
    have hb := hB.2.2.2.2.1
    rcases hM with ⟨y1, -⟩ | ⟨y1, y2, y3, y4⟩
    · exfalso; omega
    · obtain ⟨Kf, hk, hd, hc, hq⟩ := h
      have f : ∀ a i : Int, 739 ≤ a → M1 a i = M a i := fun a i q => x6 a i (by omega) (by omega) (by omega) (by omega)
      have w7 : M1 739 7 = M 739 7 := f 739 7 (by decide)
      rw [hL] at x3 x4 x5 x6
      rw [w15] at y3 y4
      rw [w7] at y4
      have k1 := MK5_sm (M := M1) (M2 := M2) (fun a i q => m1 a i (by
        have e : fg_MK8 = fg_MK ||| fg_MK8 := rfl
        rw [e, Nat.testBit_or, q, Bool.true_or]))
      have k8 : ∀ k : Int, M2 748 k = M 748 k := fun k => (m1.at (gr_748 (by decide) (by decide) k) rfl).trans (f 748 k (by decide))
      have mk : MSK M M2 := ⟨⟨k1.1.1.trans (f 739 1 (by decide)), k1.1.2.1.trans (f 739 2 (by decide)), k1.1.2.2.1.trans (f 739 3 (by decide)), k1.1.2.2.2.trans w7⟩, fun k => (k1.2.1 k).trans (f 740 k (by decide)), fun a w q => (k1.2.2 a w q).trans (f a w (by omega)), fun k _ => k8 k⟩
      have mc := MSC_sm m3
      have mq := MSQ_sm m4
      obtain ⟨r1, r2, r3⟩ := RW_bk (M1 := M1) (M2 := M2) hk hd hc hb (by omega) hB.2.2.2.1.2 x3 x4 x5 x6 y3 k8 (fun w a b => by
        have q := y4 w a b
        rw [f 751 w (by decide), f 752 w (by decide)] at q
        exact q) (CSK_sm c1) (CSD_sm c2) (CSC_sm c3) mk ⟨mc.1.trans (f 739 13 (by decide)), fun k => (mc.2 k).trans (f 747 k (by decide))⟩
      exact ⟨⟨Kf, r1, r2, r3, RWQ_fr hq (CSQ_sm (Sm_tr a4 c4)) ⟨mq.1.trans (f 739 13 (by decide)), mq.2.1.trans (f 739 21 (by decide)), mq.2.2.1.trans (f 739 24 (by decide)), mq.2.2.2.1.trans (f 739 25 (by decide)), mq.2.2.2.2.1.trans w7, fun k => (mq.2.2.2.2.2.1 k).trans (f 753 k (by decide)), fun k => (mq.2.2.2.2.2.2 k).trans (f 754 k (by decide))⟩⟩, by omega⟩
/-! ===== hide ===== -/
theorem R5_hide {M M1 M2 : Mm} {z1 z2 i sd : Int} (h : RELW M) (hB : RB5 M) (hB1 : RB5 M1)
    (hC : (z1 = 0 ∧ PCK (fun i => tbI M (155 + M 138 5) i) (M 10 9) i (-1) ∧ ∀ a i : Int, M1 a i = M a i) ∨ (z1 = 1 ∧ PCK (fun i => tbI M (155 + M 138 5) i) (M 10 9) i (M1 0 13) ∧ M1 0 13 ≠ -1 ∧ M1 0 14 = sd ∧ ∀ a i : Int, a ≠ 0 ∨ (i ≠ 13 ∧ i ≠ 14) → M1 a i = M a i))
    (hM : (z2 = 0 ∧ PCK (fun i => decide (M1 752 i = AL M1)) (M1 739 7) i (-1) ∧ M2 739 24 = M1 739 24 ∧ M2 739 25 = M1 739 25) ∨ (z2 = 1 ∧ PCK (fun i => decide (M1 752 i = AL M1)) (M1 739 7) i (M2 739 24) ∧ M2 739 24 ≠ -1 ∧ M2 739 25 = sd))
    (a1 : Sm fg_CK M M1) (a2 : Sm fg_CD M M1) (a3 : Sm fg_CC M M1) (a5 : Sm fg_MK8 M M1) (a6 : Sm fg_MD M M1) (a7 : Sm fg_MC M M1) (c1 : Sm fg_CK M1 M2) (c2 : Sm fg_CD M1 M2) (c3 : Sm fg_CC M1 M2) (c4 : Sm fg_CQ M1 M2) (m1 : Sm fg_MK8 M1 M2) (m2 : Sm fg_MD M1 M2) (m3 : Sm fg_MC M1 M2) (q13 : M2 739 13 = M1 739 13) (q21 : M2 739 21 = M1 739 21) (q7 : M2 739 7 = M1 739 7) (q753 : ∀ k : Int, M2 753 k = M1 753 k) (q754 : ∀ k : Int, M2 754 k = M1 754 k) : RELW M2 ∧ z1 = z2 := by
  obtain ⟨Kf, hk, hd, hc, hq⟩ := h
  have f : ∀ a i : Int, a ≠ 0 → M1 a i = M a i := fun a i q => by
    rcases hC with ⟨-, -, x⟩ | ⟨-, -, -, -, x⟩
    · exact x a i
    · exact x a i (Or.inl q)
  have hb := hB.2.2.2.2.1
  have eM : PCK (fun i => decide (M1 752 i = AL M1)) (M1 739 7) i = PCK (fun w => decide (M 752 w = AL M)) (M 739 7) i := by
    have e1 : AL M1 = AL M := by
      unfold AL
      rw [f 739 15 (by decide)]
    rw [e1, f 739 7 (by decide), show (fun i => decide (M1 752 i = AL M)) = (fun w => decide (M 752 w = AL M)) from funext fun w => by rw [f 752 w (by decide)]]
  rw [eM] at hM
  have hk2 := RWK_fr (RWK_fr hk (CSK_sm a1) (MSK_sm a5)) (CSK_sm c1) (MSK_sm m1)
  have hd2 := RWD_fr (RWD_fr hd hb (CSD_sm a2) (MSD_sm a6)) hB1.2.2.2.2.1 (CSD_sm c2) (MSD_sm m2)
  have hc2 := RWC_fr (RWC_fr hc hB.2.2.2.1.2 (CSC_sm a3) (MSC_sm a7)) hB1.2.2.2.1.2 (CSC_sm c3) (MSC_sm m3)
  have cq := CSQ_sm c4
  have p1 : M2 2 1 = M 2 1 := cq.1.trans (f 2 1 (by decide))
  have qq : ∀ q : Int, 0 ≤ q → q < M2 739 21 → M2 169 q = 30 * M2 753 q + M2 754 q ∧ 0 ≤ M2 753 q ∧ M2 753 q < M2 2 1 ∧ 0 ≤ M2 754 q ∧ M2 754 q < M2 739 13 := fun q a b => by
    rw [cq.2.1, f 169 q (by decide), q753, q754, f 753 q (by decide), f 754 q (by decide), p1, q13, f 739 13 (by decide)]
    exact hq.1 q a (by rw [q21, f 739 21 (by decide)] at b; exact b)
  rcases hC with ⟨x1, x2, x3⟩ | ⟨x1, x2, x3, x4, x5⟩ <;> rcases hM with ⟨y1, y2, y3, y4⟩ | ⟨y1, y2, y3, y4⟩
  · refine ⟨⟨Kf, hk2, hd2, hc2, qq, ?_, ?_⟩, by omega⟩
    · rw [cq.2.2.1, x3 0 13, y3, f 739 24 (by decide), q7, f 739 7 (by decide)]
      exact hq.2.1
    · rw [cq.2.2.2, x3 0 14, y4, f 739 25 (by decide)]
      exact hq.2.2
  · rcases RW_hd hk hd hb.1 hB.2.2.2.2.2.1.1 x2 y2 with ⟨-, e⟩ | ⟨-, -, -, e⟩
    · exact absurd e y3
    · exact absurd e (by decide)
  · rcases RW_hd hk hd hb.1 hB.2.2.2.2.2.1.1 x2 y2 with ⟨e, -⟩ | ⟨e, -⟩
    · exact absurd e x3
    · exact absurd e (by decide)
  · rcases RW_hd hk hd hb.1 hB.2.2.2.2.2.1.1 x2 y2 with ⟨e, -⟩ | ⟨e1, e2, e3, -⟩
    · exact absurd e x3
    · refine ⟨⟨Kf, hk2, hd2, hc2, qq, Or.inr ⟨e1, by rw [q7, f 739 7 (by decide)]; exact e2, by rw [cq.2.2.1]; exact e3⟩, ?_⟩, by omega⟩
      rw [cq.2.2.2, x4, y4]

/-! ===== reply ===== -/
theorem R5_reply {M M1 M2 : Mm} {q z1 z2 : Int} {O : List Int} {bad : Prop} (h : RELW M) (hB : RB5 M) (hB1 : RB5 M1) (hP : Pw M) (hbad : ¬ bad → 0 ≤ q ∧ q < M 739 21) (hbd2 : bad → q < 0 ∨ M 739 21 ≤ q) (hz1 : z1 ≤ 1)
    (hC : (bad ∧ ∀ a i : Int, 0 ≤ a → M1 a i = M a i) ∨ (¬ bad ∧ ∃ (v : Int) (Mp : Mm), M1 = mUp Mp 769 0 v ∧ RB5 Mp ∧ (((M 0 13 = -1 ∨ M 138 5 = 12) ∧ z1 = -1 ∧ ∀ a i : Int, Mp a i = M a i) ∨ (M 0 13 ≠ -1 ∧ M 138 5 < 12 ∧ ((kdC (cdX (M 136 (M 0 13)) (M 169 q / 30)) = 4 ∧ Mp 0 14 = SDN (M 0 14) ∧ z1 = Mp 0 14 / 65536 % 2) ∨ (kdC (cdX (M 136 (M 0 13)) (M 169 q / 30)) ≠ 4 ∧ Mp 0 14 = M 0 14 ∧ ∀ x : Bool, runF (stV M 17 11 (M 0 13 / 64) (M 0 13 % 64).toNat) (CL M (679 + 2 * (M 169 q % 30))) [] = [x] → z1 = 1 - b2i (ftV M 17 11 (M 169 q / 30) 0 (M 0 13 / 64) x (M 0 13 % 64).toNat))) ∧ 0 ≤ z1 ∧ RECP M Mp (M 169 q / 30) (679 + 2 * (M 169 q % 30)) z1 (M 138 5) (M 10 10)))))
    (a5 : Sm fg_MK8 M M1) (a6 : Sm fg_MD M M1) (a7 : Sm fg_MC M M1) (a8 : Sm fg_MQ M M1) (a21 : M1 2 1 = M 2 1) (a169 : ∀ k : Int, M1 169 k = M 169 k) (a013 : M1 0 13 = M 0 13)
    (hM : ((z2 = 0 ∨ z2 = -1) ∧ (∀ a i : Int, a ≠ 739 ∨ i ≠ 0 → M2 a i = M1 a i) ∧ (q < 0 ∨ M1 739 21 ≤ q ∨ M1 739 15 = 12 ∨ M1 739 24 = -1)) ∨ (0 ≤ q ∧ q < M1 739 21 ∧ M1 739 15 < 12 ∧ M1 739 24 ≠ -1 ∧ (∀ b, runR (evF M1 (M1 739 24) (M1 739 15) (M1 751 (M1 739 24))) O [] = [b] → (lyF M1 (M1 739 24) (M1 753 q) (M1 739 15) = 2 ∧ M2 739 25 = SDN (M1 739 25) ∧ z2 = M2 739 25 / 65536 % 2) ∨ (lyF M1 (M1 739 24) (M1 753 q) (M1 739 15) ≠ 2 ∧ M2 739 25 = M1 739 25 ∧ z2 = 1 - b2i (csV (evF M1 (M1 739 24) (M1 739 15) (M1 751 (M1 739 24))) (M1 753 q) 0 b))) ∧ 0 ≤ z2 ∧ M2 739 15 = M1 739 15 + 1 ∧ ((∀ k : Int, M2 748 k = if k = M1 739 15 then (M1 753 q) else M1 748 k) ∧ (∀ k : Int, M2 749 k = if k = M1 739 15 then (M1 754 q) else M1 749 k) ∧ (∀ k : Int, M2 750 k = if k = M1 739 15 then z2 else M1 750 k)) ∧ EVW M1 M2 O (M1 739 15) (M1 753 q) z2 (M1 739 7)))
    (c1 : Sm fg_CK M1 M2) (c2 : Sm fg_CD M1 M2) (c3 : Sm fg_CC M1 M2) (c4 : Sm fg_CQ M1 M2) (m1 : Sm fg_MK M1 M2) (m3 : Sm fg_MC M1 M2) (q21 : M2 739 21 = M1 739 21) (q24 : M2 739 24 = M1 739 24) (q7 : M2 739 7 = M1 739 7) (q753 : ∀ k : Int, M2 753 k = M1 753 k) (q754 : ∀ k : Int, M2 754 k = M1 754 k) (hO : 0 ≤ q → q < M 739 21 → LST (fun k => M 747 k) (400 * M 754 q) O) (g769 : ∃ k, grp 769 0 = k ∧ Nat.testBit fg_CK k = false ∧ Nat.testBit fg_CD k = false ∧ Nat.testBit fg_CC k = false) : RELW M2 ∧ (bad ∨ z1 = z2 ∨ (z1 = -1 ∧ (z2 = 0 ∨ z2 = -1) ∧ (M1 739 15 = 12 ∨ M1 739 24 = -1))) := by
  obtain ⟨gk, g0, g1, g2, g3⟩ := g769
  obtain ⟨Kf, hk, hd, hc, hq⟩ := h
  have hL : M 138 5 = M 739 15 := hd.1.1
  have w15 : M1 739 15 = M 739 15 := a6.at g_739_15 rfl
  have w7 : M1 739 7 = M 739 7 := a6.at g_739_7 rfl
  have w21 : M1 739 21 = M 739 21 := a8.at g_739_21 rfl
  have w24 : M1 739 24 = M 739 24 := a8.at g_739_24 rfl
  have w25 : M1 739 25 = M 739 25 := a8.at g_739_25 rfl
  have w753 : M1 753 q = M 753 q := a8.at (gr_753 (by decide) (by decide) q) rfl
  have w754 : M1 754 q = M 754 q := a8.at (gr_754 (by decide) (by decide) q) rfl
  have hid := hq.2.1
  rcases hC with ⟨b, e⟩ | ⟨b, v, Mp, e, hBp, hc2⟩
  · rcases hM with ⟨-, f, -⟩ | ⟨x1, x2, -⟩
    · exact ⟨RELW_m0 (RELW_all ⟨Kf, hk, hd, hc, hq⟩ hB e) hB1 f, Or.inl b⟩
    · exfalso
      have := hbd2 b
      omega
  · obtain ⟨b0, b1⟩ := hbad b
    obtain ⟨r1, r2, r3, r4, r5⟩ := hq.1 q b0 b1
    have hs30 := hB.2.2.2.1
    have ep : M 169 q / 30 = M 753 q := by omega
    have es : M 169 q % 30 = M 754 q := by omega
    rw [ep, es] at hc2
    rcases hc2 with ⟨x1, x2, x3⟩ | ⟨x1, x2, x3, x4, x5⟩
    · rcases hM with ⟨y0, y1, yc⟩ | ⟨-, -, y3, y4, -⟩
      · exact ⟨RELW_m0 (RELW_o (RELW_all ⟨Kf, hk, hd, hc, hq⟩ hB (fun a i _ => x3 a i)) hBp e) hB1 y1, Or.inr (Or.inr ⟨x2, y0, by omega⟩)⟩
      · exfalso
        rcases hid with ⟨h1, h2⟩ | ⟨h1, h2, h3⟩
        · omega
        · rcases x1 with x1 | x1
          · have := (hk.2.2.2.2 _ h1 h2).1
            omega
          · omega
    · rcases hM with ⟨-, -, y2⟩ | ⟨-, -, y3, y4, y5, y6, y7, y8, y9⟩
      · exfalso
        rcases hid with ⟨h1, h2⟩ | ⟨h1, h2, h3⟩
        · exact x1 h1
        · omega
      · rcases hid with ⟨h1, h2⟩ | ⟨h1, h2, h3⟩
        · exact absurd h1 x1
        have er := ev_rows a5 a6
        have evM : ∀ w t so : Int, evF M1 w t so = evF M w t so := fun w t so => evF_748 (fun a qq => er a w (by omega)) (fun k _ => er 748 k (by decide)) (a5.at g_739_1 rfl) (a5.at g_739_3 rfl)
        have p6 := hB.1.2
        have lyM : ∀ w t : Int, lyF M1 w (M 753 q) t = lyF M w (M 753 q) t := fun w t => by
          rw [← evF_20 (M := M1) (so := 0) r2 (by omega), ← evF_20 (M := M) (so := 0) r2 (by omega), evM]
        rw [w24, w15, w753, evM, lyM, er 751 _ (by decide), w25] at y5
        rw [w753] at y8 y9
        have hOO := hO b0 b1
        rw [h3] at x3
        have two := RW_rp (M1 := Mp) (M2 := M2) hk hd hc hP hB.2.2.2.2.1 r2 r3 p6 r4 r5 hB.2.1 hB.2.2.1 (hB.2.2.2.2.2.2.2.1 _ r4 (by omega)) hOO h1 h2 hq.2.2 x3 y5
        have ez := two.1
        rw [← ez] at y9
        obtain ⟨u1, u2, u3⟩ := R5_ev hk hd hc hB hP x5 x2 r2 r3 r4 r5 (by omega) hOO a5 a6 a7 (Sm_o e g0 g1) (Sm_o e g0 g2) (Sm_o e g0 g3) c1 c2 c3 m1 m3 y7 y8.1 y9
        have cq := CSQ_sm c4
        refine ⟨⟨Kf, u1, u2, u3, fun k a c => ?_, ?_, ?_⟩, Or.inr (Or.inl ez)⟩
        · rw [cq.2.1, a169, q753, q754, cq.1, a21, show M1 753 k = M 753 k from a8.at (gr_753 (by decide) (by decide) k) rfl, show M1 754 k = M 754 k from a8.at (gr_754 (by decide) (by decide) k) rfl, (MSC_sm m3).1, (MSC_sm a7).1]
          exact hq.1 k a (by rw [q21, w21] at c; exact c)
        · rw [cq.2.2.1, a013, q24, w24, q7, w7]
          exact hq.2.1
        · rw [cq.2.2.2, ← two.2, e, mUp_ne (Or.inl (by decide))]
/-! ===== question ===== -/
theorem RWQ_fr2 {M M2 : Mm} {Kf : Int → Int} (h : RWQ M Kf) (c : CSQ M M2) (m1 : M 739 13 ≤ M2 739 13) (m2 : M2 739 21 = M 739 21) (m3 : M2 739 24 = M 739 24) (m4 : M2 739 25 = M 739 25) (m5 : M2 739 7 = M 739 7) (m6 : ∀ k : Int, M2 753 k = M 753 k) (m7 : ∀ k : Int, M2 754 k = M 754 k) : RWQ M2 Kf := by
  obtain ⟨h1, h2, h3⟩ := h
  obtain ⟨c1, c2, c3, c4⟩ := c
  unfold RWQ
  rw [c1, c3, c4, m2, m3, m4, m5]
  exact ⟨fun q a b => by
    rw [c2, m6, m7]
    obtain ⟨a1, a2, a3, a4, a5⟩ := h1 q a b
    exact ⟨a1, a2, a3, a4, by omega⟩, h2, h3⟩
theorem R5_q0 {M M1 M2 : Mm} (h : RELW M) (hB : RB5 M) (hB1 : RB5 M1) (hC : (∀ a i : Int, 0 ≤ a → M1 a i = M a i) ∨ ∃ (v : Int) (Mp : Mm), M1 = mUp Mp 769 0 v ∧ RB5 Mp ∧ ∀ a i : Int, Mp a i = M a i) (hM : (∀ k : Int, M2 753 k = M1 753 k) ∧ ∀ k : Int, M2 754 k = M1 754 k) (e21 : M2 739 21 = M1 739 21) (c1 : Sm fg_CK M1 M2) (c2 : Sm fg_CD M1 M2) (c3 : Sm fg_CC M1 M2) (c4 : Sm fg_CQ M1 M2) (m1 : Sm fg_MK8 M1 M2) (m2 : Sm fg_MD M1 M2) (m3 : Sm fg_MC M1 M2) (q24 : M2 739 24 = M1 739 24) (q25 : M2 739 25 = M1 739 25) (q7 : M2 739 7 = M1 739 7) : RELW M2 := by
  have h1 : RELW M1 := by
    rcases hC with e | ⟨v, Mp, e, hp, f⟩
    · exact RELW_all h hB e
    · exact RELW_o (RELW_all h hB (fun a i _ => f a i)) hp e
  obtain ⟨Kf, hk, hd, hc, hq⟩ := h1
  exact ⟨Kf, RWK_fr hk (CSK_sm c1) (MSK_sm m1), RWD_fr hd hB1.2.2.2.2.1 (CSD_sm c2) (MSD_sm m2), RWC_fr hc hB1.2.2.2.1.2 (CSC_sm c3) (MSC_sm m3), RWQ_fr hq (CSQ_sm c4) ⟨(MSC_sm m3).1, e21, q24, q25, q7, hM.1, hM.2⟩⟩
theorem R5_q1 {M M1 M2 Mp : Mm} {p s v : Int} (h : RELW M) (hB : RB5 M) (hBp : RB5 Mp) (hB1 : RB5 M1) (e11 : M 0 11 = M 739 21) (hg : 0 ≤ p ∧ p < M 2 1 ∧ 0 ≤ s ∧ s < M 739 13) (e : M1 = mUp Mp 769 0 v) (x1 : ∀ k : Int, Mp 169 k = if k = M 0 11 then 30 * p + s else M 169 k) (x2 : ∀ a i : Int, a ≠ 169 → (a ≠ 0 ∨ i ≠ 11) → Mp a i = M a i) (y1 : ∀ k : Int, M2 753 k = if k = M1 739 21 then p else M1 753 k) (y2 : ∀ k : Int, M2 754 k = if k = M1 739 21 then s else M1 754 k) (y3 : M2 739 21 = M1 739 21 + 1) (c1 : Sm fg_CK M1 M2) (c2 : Sm fg_CD M1 M2) (c3 : Sm fg_CC M1 M2) (c4 : Sm fg_CQ M1 M2) (m1 : Sm fg_MK8 M1 M2) (m2 : Sm fg_MD M1 M2) (m3 : Sm fg_MC M1 M2) (q24 : M2 739 24 = M1 739 24) (q25 : M2 739 25 = M1 739 25) (q7 : M2 739 7 = M1 739 7) : RELW M2 := by
  have f : ∀ a i : Int, a ≠ 169 → a ≠ 769 → (a ≠ 0 ∨ i ≠ 11) → M1 a i = M a i := fun a i p1 p2 p3 => by rw [e, mUp_ne (Or.inl p2)]; exact x2 a i p1 p3
  obtain ⟨Kf, hk, hd, hc, hq⟩ := h
  have hb := hB.2.2.2.2.1
  have cK : CSK M M1 := ⟨fun k _ _ => f 2 k (by decide) (by decide) (by omega), fun k => f 3 k (by decide) (by decide) (by omega), ⟨f 10 9 (by decide) (by decide) (by decide), f 10 10 (by decide) (by decide) (by decide)⟩, fun r j _ _ _ => f _ j (by omega) (by omega) (by omega), fun i => f 136 i (by decide) (by decide) (by omega), fun i => f 137 i (by decide) (by decide) (by omega)⟩
  have cD : CSD M M1 := ⟨f 138 5 (by decide) (by decide) (by decide), fun k => f 139 k (by decide) (by decide) (by omega), fun k => f 11 k (by decide) (by decide) (by omega), fun k j _ _ => f _ j (by omega) (by omega) (by omega), fun k j _ _ => f _ j (by omega) (by omega) (by omega), fun k j _ _ => f _ j (by omega) (by omega) (by omega), f 10 10 (by decide) (by decide) (by decide)⟩
  have cC : CSC5 M M1 := ⟨f 2 1 (by decide) (by decide) (by decide), fun c hc _ => CL_cg (f c 1 (by unfold isC at hc; omega) (by unfold isC at hc; omega) (by unfold isC at hc; omega)) (fun k => f (c + 1) k (by unfold isC at hc; omega) (by unfold isC at hc; omega) (by unfold isC at hc; omega))⟩
  have mK : MSK M M1 := ⟨⟨f 739 1 (by decide) (by decide) (by decide), f 739 2 (by decide) (by decide) (by decide), f 739 3 (by decide) (by decide) (by decide), f 739 7 (by decide) (by decide) (by decide)⟩, fun k => f 740 k (by decide) (by decide) (by omega), fun a w q => f a w (by omega) (by omega) (by omega), fun k _ => f 748 k (by decide) (by decide) (by omega)⟩
  have mD : MSD M M1 := ⟨f 739 15 (by decide) (by decide) (by decide), f 739 7 (by decide) (by decide) (by decide), fun k _ _ => f 748 k (by decide) (by decide) (by omega), fun w _ _ => ⟨f 751 w (by decide) (by decide) (by omega), f 752 w (by decide) (by decide) (by omega)⟩⟩
  have mC : MSC M M1 := ⟨f 739 13 (by decide) (by decide) (by decide), fun k => f 747 k (by decide) (by decide) (by omega)⟩
  have w21 : M1 739 21 = M 739 21 := f 739 21 (by decide) (by decide) (by decide)
  have cq := CSQ_sm c4
  refine ⟨Kf, RWK_fr (RWK_fr hk cK mK) (CSK_sm c1) (MSK_sm m1), RWD_fr (RWD_fr hd hb cD mD) hB1.2.2.2.2.1 (CSD_sm c2) (MSD_sm m2), RWC_fr (RWC_fr hc hB.2.2.2.1.2 cC mC) hB1.2.2.2.1.2 (CSC_sm c3) (MSC_sm m3), RW_qn hq hB.2.2.2.2.2.2.1 hg.1 hg.2.1 hg.2.2.1 hg.2.2.2 (by rw [y3, w21]) (fun k => ?_) (fun k => ?_) (fun k => ?_) (cq.1.trans (f 2 1 (by decide) (by decide) (by decide))) (cq.2.2.1.trans (f 0 13 (by decide) (by decide) (by decide))) (cq.2.2.2.trans (f 0 14 (by decide) (by decide) (by decide))) ((MSC_sm m3).1.trans (f 739 13 (by decide) (by decide) (by decide))) (q24.trans (f 739 24 (by decide) (by decide) (by decide))) (q25.trans (f 739 25 (by decide) (by decide) (by decide))) (q7.trans (f 739 7 (by decide) (by decide) (by decide)))⟩
  · rw [cq.2.1, e, mUp_ne (Or.inl (by decide)), x1, e11]
  · rw [y1, w21, f 753 k (by decide) (by decide) (by omega)]
  · rw [y2, w21, f 754 k (by decide) (by decide) (by omega)]
/-! ===== sentence ===== -/
theorem RW_so {T : Int → Int} {n : Int} {M M2 : Mm} (hc : RWC M) (hw : WS M) (h0 : 0 ≤ M 739 13) (e1 : M2 739 13 = M 739 13 ∨ (M2 739 13 = M 739 13 + 1 ∧ CDX T n (M 2 1) (CL M2 (679 + 2 * M 739 13)) ∧ ∃ O : List Int, LST (fun k => M2 747 k) (400 * M 739 13) O ∧ CDM T n (M 2 1) (sk T n 0) O)) (e2 : M2 2 1 = M 2 1) (cl : ∀ s : Int, 0 ≤ s → s < M 739 13 → CL M2 (679 + 2 * s) = CL M (679 + 2 * s)) (md : ∀ k : Int, k < 400 * M 739 13 → M2 747 k = M 747 k) : RWC M2 := by
  rcases e1 with e1 | ⟨e1, nc, nm⟩
  · intro s a b
    rw [e2]
    have b2 : s < M 739 13 := by omega
    obtain ⟨O, x, y⟩ := hc s a b2
    obtain ⟨e, he, hg⟩ := hw s a b2
    have hl := LST_en x hg
    refine ⟨O, LST_cg x (fun k k0 k1 => md _ (by omega)), ?_⟩
    rw [cl s a b2]
    exact y
  · exact RW_sn hc hw h0 e1 e2 cl md nc nm
