/-! ===== the model's WORLDS ===== -/
def mcQ (q : Int) : Int := if q = 3 then 10 else kdQ q
def CHQ (m c z : Int) : Prop := (z = -1 ∧ cT m ≤ c) ∨ ∃ q : Int, alQ m q ∧ rkQ m q.toNat = c ∧ z = mcQ q
theorem rk_v (m : Int) : rkQ m 0 = 0 ∧ rkQ m 1 = m % 2 ∧ rkQ m 2 = m % 2 + m / 2 % 2 ∧ rkQ m 3 = m % 2 + m / 2 % 2 + m / 4 % 2 ∧ rkQ m 4 = m % 2 + m / 2 % 2 + 2 * (m / 4 % 2) ∧ rkQ m 5 = m % 2 + m / 2 % 2 + 2 * (m / 4 % 2) + m / 8 % 2 := by
  have e0 : (if m / pw (kdQ ((0 : Nat) : Int)) % 2 = 1 then (1 : Int) else 0) = m % 2 := by
    rw [show pw (kdQ ((0 : Nat) : Int)) = 1 by decide, Int.ediv_one]
    split <;> omega
  have e1 : (if m / pw (kdQ ((1 : Nat) : Int)) % 2 = 1 then (1 : Int) else 0) = m / 2 % 2 := by
    rw [show pw (kdQ ((1 : Nat) : Int)) = 2 by decide]
    split <;> omega
  have e2 : (if m / pw (kdQ ((2 : Nat) : Int)) % 2 = 1 then (1 : Int) else 0) = m / 4 % 2 := by
    rw [show pw (kdQ ((2 : Nat) : Int)) = 4 by decide]
    split <;> omega
  have e3 : (if m / pw (kdQ ((3 : Nat) : Int)) % 2 = 1 then (1 : Int) else 0) = m / 4 % 2 := by
    rw [show pw (kdQ ((3 : Nat) : Int)) = 4 by decide]
    split <;> omega
  have e4 : (if m / pw (kdQ ((4 : Nat) : Int)) % 2 = 1 then (1 : Int) else 0) = m / 8 % 2 := by
    rw [show pw (kdQ ((4 : Nat) : Int)) = 8 by decide]
    split <;> omega
  have s1 : rkQ m 1 = m % 2 := by
    show (0 : Int) + _ = _
    rw [e0]; omega
  have s2 : rkQ m 2 = m % 2 + m / 2 % 2 := by
    show rkQ m 1 + _ = _
    rw [e1, s1]
  have s3 : rkQ m 3 = m % 2 + m / 2 % 2 + m / 4 % 2 := by
    show rkQ m 2 + _ = _
    rw [e2, s2]
  have s4 : rkQ m 4 = m % 2 + m / 2 % 2 + 2 * (m / 4 % 2) := by
    show rkQ m 3 + _ = _
    rw [e3, s3]; omega
  have s5 : rkQ m 5 = m % 2 + m / 2 % 2 + 2 * (m / 4 % 2) + m / 8 % 2 := by
    show rkQ m 4 + _ = _
    rw [e4, s4]
  exact ⟨rfl, s1, s2, s3, s4, s5⟩
theorem CHQ_u {m c z : Int} (h : (z = -1 ∧ m % 2 + m / 2 % 2 + 2 * (m / 4 % 2) + m / 8 % 2 + m / 16 % 2 ≤ c) ∨ (z = 0 ∧ m % 2 = 1 ∧ c = 0) ∨ (z = 1 ∧ m / 2 % 2 = 1 ∧ c = m % 2) ∨ (z = 2 ∧ m / 4 % 2 = 1 ∧ c = m % 2 + m / 2 % 2) ∨ (z = 10 ∧ m / 4 % 2 = 1 ∧ c = m % 2 + m / 2 % 2 + 1) ∨ (z = 3 ∧ m / 8 % 2 = 1 ∧ c = m % 2 + m / 2 % 2 + 2 * (m / 4 % 2)) ∨ (z = 4 ∧ m / 16 % 2 = 1 ∧ c = m % 2 + m / 2 % 2 + 2 * (m / 4 % 2) + m / 8 % 2)) : CHQ m c z := by
  obtain ⟨r0, r1, r2, r3, r4, r5⟩ := rk_v m
  rcases h with ⟨a, b⟩ | ⟨a, b, d⟩ | ⟨a, b, d⟩ | ⟨a, b, d⟩ | ⟨a, b, d⟩ | ⟨a, b, d⟩ | ⟨a, b, d⟩
  · exact Or.inl ⟨a, by unfold cT; omega⟩
  · exact Or.inr ⟨0, ⟨by decide, by decide, by rw [show pw (kdQ 0) = 1 by decide, Int.ediv_one]; exact b⟩, by rw [show (0 : Int).toNat = 0 from rfl, r0, d], by rw [a]; rfl⟩
  · exact Or.inr ⟨1, ⟨by decide, by decide, by rw [show pw (kdQ 1) = 2 by decide]; exact b⟩, by rw [show (1 : Int).toNat = 1 from rfl, r1, d], by rw [a]; rfl⟩
  · exact Or.inr ⟨2, ⟨by decide, by decide, by rw [show pw (kdQ 2) = 4 by decide]; exact b⟩, by rw [show (2 : Int).toNat = 2 from rfl, r2, d], by rw [a]; rfl⟩
  · exact Or.inr ⟨3, ⟨by decide, by decide, by rw [show pw (kdQ 3) = 4 by decide]; exact b⟩, by rw [show (3 : Int).toNat = 3 from rfl, r3, d, b], by rw [a]; rfl⟩
  · exact Or.inr ⟨4, ⟨by decide, by decide, by rw [show pw (kdQ 4) = 8 by decide]; exact b⟩, by rw [show (4 : Int).toNat = 4 from rfl, r4, d], by rw [a]; rfl⟩
  · exact Or.inr ⟨5, ⟨by decide, by decide, by rw [show pw (kdQ 5) = 16 by decide]; exact b⟩, by rw [show (5 : Int).toNat = 5 from rfl, r5, d], by rw [a]; rfl⟩
theorem pwN (k : Int) : pw k = ((2 ^ k.toNat : Nat) : Int) := by
  show (2 : Int) ^ k.toNat = _
  rw [Int.natCast_pow]
  rfl
/-- a WORLD in the making: what it is of the first l -/
def LC (q : Int → Int) : Nat → Int
  | 0 => 0
  | n + 1 => LC q n + (if q n = 3 then pw n else 0)
theorem LC_b (q : Int → Int) : ∀ n : Nat, n ≤ 7 → 0 ≤ LC q n ∧ LC q n < pw n := by
  intro n
  induction n with
  | zero => intro _; exact ⟨Int.le_refl _, show (0 : Int) < pw ((0 : Nat) : Int) by decide⟩
  | succ n ih =>
    intro h
    obtain ⟨a, b⟩ := ih (by omega)
    have e : pw ((n + 1 : Nat) : Int) = 2 * pw (n : Int) := by
      have : n = 0 ∨ n = 1 ∨ n = 2 ∨ n = 3 ∨ n = 4 ∨ n = 5 ∨ n = 6 := by omega
      rcases this with rfl | rfl | rfl | rfl | rfl | rfl | rfl <;> decide
    have hp := pw_pos (n : Int)
    show 0 ≤ LC q n + (if q n = 3 then pw n else 0) ∧ LC q n + (if q n = 3 then pw n else 0) < _
    rw [e]
    split <;> omega
theorem or_hi {L c a : Nat} (hL : L < 2 ^ a) : L ||| (c * 2 ^ a) = c * 2 ^ a + L := by
  rw [Nat.mul_comm c, Nat.two_pow_add_eq_or_of_lt hL, Nat.or_comm]
def CMI (u q : Int → Int) (kn li l : Int) (ch : Int → Int) : Prop := (∀ p : Int, 0 ≤ p → p < l → alQ (u p) (q p) ∧ rkQ (u p) (q p).toNat = ch p) ∧ (∀ p : Int, l ≤ p → p < 7 → q p = 0) ∧ kn = SC (fun p => kdQ (q p)) l.toNat ∧ li = LC q l.toNat
theorem SC_cg {u v : Int → Int} : ∀ n : Nat, (∀ k : Nat, k < n → u k = v k) → SC u n = SC v n := by
  intro n
  induction n with
  | zero => intro _; rfl
  | succ n ih =>
    intro h
    show SC u n + u n * pw (3 * n) = SC v n + v n * pw (3 * n)
    rw [ih (fun k hk => h k (by omega)), h n (by omega)]
theorem LC_cg {u v : Int → Int} : ∀ n : Nat, (∀ k : Nat, k < n → u k = v k) → LC u n = LC v n := by
  intro n
  induction n with
  | zero => intro _; rfl
  | succ n ih =>
    intro h
    show LC u n + (if u n = 3 then pw n else 0) = LC v n + (if v n = 3 then pw n else 0)
    rw [ih (fun k hk => h k (by omega)), h n (by omega)]
theorem CMI_0 (u : Int → Int) (ch : Int → Int) : CMI u (fun _ => 0) 0 0 0 ch := ⟨fun p a b => by omega, fun _ _ _ => rfl, rfl, rfl⟩
theorem CMI_st {u q ch : Int → Int} {kn li l c z kn2 li2 v1 v2 : Int} (h : CMI u q kn li l ch) (h0 : 0 ≤ l) (h7 : l < 7) (hz : CHQ (u l) c z) (hn : z ≠ -1) (hc : ch l = c) (e1 : v1 = z % 8 * pw (3 * l)) (e2 : kn2 = ((kn.toNat ||| v1.toNat : Nat) : Int)) (e3 : v2 = z / 8 * pw l) (e4 : li2 = ((li.toNat ||| v2.toNat : Nat) : Int)) : ∃ q2, CMI u q2 kn2 li2 (l + 1) ch := by
  obtain ⟨a1, a2, a3, a4⟩ := h
  rcases hz with ⟨b, -⟩ | ⟨q0, b1, b2, b3⟩
  · exact absurd b hn
  have hq0 : 0 ≤ q0 ∧ q0 ≤ 5 := ⟨b1.1, b1.2.1⟩
  have hk := kdQ_b hq0.1 hq0.2
  have hz1 : z % 8 = kdQ q0 := by
    rw [b3]
    unfold mcQ
    by_cases q3 : q0 = 3
    · rw [if_pos q3, q3]; decide
    · rw [if_neg q3]; omega
  have hz2 : z / 8 = if q0 = 3 then 1 else 0 := by
    rw [b3]
    unfold mcQ
    by_cases q3 : q0 = 3
    · rw [if_pos q3, if_pos q3]; decide
    · rw [if_neg q3, if_neg q3]; omega
  refine ⟨fun k => if k = l then q0 else q k, fun p p0 p1 => ?_, fun p p0 p1 => ?_, ?_, ?_⟩
  · by_cases x : p = l
    · show alQ (u p) (if p = l then q0 else q p) ∧ rkQ (u p) (if p = l then q0 else q p).toNat = ch p
      rw [if_pos x, x]
      exact ⟨b1, b2.trans hc.symm⟩
    · show alQ (u p) (if p = l then q0 else q p) ∧ rkQ (u p) (if p = l then q0 else q p).toNat = ch p
      rw [if_neg x]
      exact a1 p p0 (by omega)
  · show (if p = l then q0 else q p) = 0
    rw [if_neg (by omega)]
    exact a2 p (by omega) p1
  · have hu : ∀ k : Int, 0 ≤ k → k < 7 → 0 ≤ (fun p => kdQ (if p = l then q0 else q p)) k ∧ (fun p => kdQ (if p = l then q0 else q p)) k ≤ 7 := fun k k0 k7 => by
      show 0 ≤ kdQ (if k = l then q0 else q k) ∧ kdQ (if k = l then q0 else q k) ≤ 7
      by_cases x : k = l
      · rw [if_pos x]; omega
      · rw [if_neg x]
        by_cases y : k < l
        · have := kdQ_b (a1 k k0 y).1.1 (a1 k k0 y).1.2.1
          omega
        · rw [a2 k (by omega) k7]; decide
    have hs : SC (fun p => kdQ (if p = l then q0 else q p)) l.toNat = SC (fun p => kdQ (q p)) l.toNat := SC_cg _ fun k hk2 => by
      show kdQ (if (k : Int) = l then q0 else q k) = kdQ (q k)
      rw [if_neg (by omega)]
    have := pk_step (u := fun p => kdQ (if p = l then q0 else q p)) (x := kn) (H := 0) (c := kdQ q0) (v := v1) (r := kn2) (k := l) hu (Int.le_refl _) (by rw [hs, a3]; omega) h0 h7 (by rw [e1, hz1]) (if_pos rfl ▸ rfl) e2
    rw [this, Int.mul_zero, Int.zero_add]
  · have hL := LC_b q l.toNat (by omega)
    have ep : pw l = ((2 ^ l.toNat : Nat) : Int) := pwN l
    have ep2 : pw ((l.toNat : Nat) : Int) = pw l := by rw [show ((l.toNat : Nat) : Int) = l by omega]
    rw [ep2] at hL
    rw [← a4] at hL
    have hs : LC (fun p => if p = l then q0 else q p) (l + 1).toNat = li + (if q0 = 3 then pw l else 0) := by
      rw [show (l + 1).toNat = l.toNat + 1 by omega]
      show LC (fun p => if p = l then q0 else q p) l.toNat + (if (if ((l.toNat : Nat) : Int) = l then q0 else q (l.toNat : Nat)) = 3 then pw ((l.toNat : Nat) : Int) else 0) = _
      rw [if_pos (show ((l.toNat : Nat) : Int) = l by omega), ep2, a4, LC_cg (u := fun p => if p = l then q0 else q p) (v := q) _ (fun k hk2 => if_neg (by omega))]
    rw [hs, e4, e3, hz2]
    by_cases q3 : q0 = 3
    · rw [if_pos q3, if_pos q3, Int.one_mul, ep, Int.toNat_natCast]
      have := or_hi (L := li.toNat) (c := 1) (a := l.toNat) (by rw [ep] at hL; omega)
      rw [Nat.one_mul] at this
      rw [this]
      omega
    · rw [if_neg q3, if_neg q3, Int.zero_mul, show (0 : Int).toNat = 0 from rfl, Nat.or_zero]
      omega
/-- what stands behind all -/
theorem CMI_e {u q ch : Int → Int} {kn li N : Int} (h : CMI u q kn li N ch) (hN : 0 ≤ N) (h7 : N ≤ 7) : ∀ p : Int, 0 ≤ p → p < 7 → kn / pw (3 * p) % 8 = kdQ (q p) ∧ li / pw p % 2 = if q p = 3 then 1 else 0 := by
  obtain ⟨a1, a2, a3, a4⟩ := h
  have hq : ∀ k : Int, 0 ≤ k → k < 7 → 0 ≤ q k ∧ q k ≤ 5 := fun k k0 k7 => by
    by_cases y : k < N
    · exact ⟨(a1 k k0 y).1.1, (a1 k k0 y).1.2.1⟩
    · rw [a2 k (by omega) k7]; exact ⟨by decide, by decide⟩
  have key : ∀ t : Nat, N.toNat + t ≤ 7 → SC (fun p => kdQ (q p)) (N.toNat + t) = SC (fun p => kdQ (q p)) N.toNat ∧ LC q (N.toNat + t) = LC q N.toNat := by
    intro t
    induction t with
    | zero => intro _; exact ⟨rfl, rfl⟩
    | succ t ih =>
      intro ht
      obtain ⟨b1, b2⟩ := ih (by omega)
      have h0 := a2 ((N.toNat + t : Nat) : Int) (by omega) (by omega)
      refine ⟨?_, ?_⟩
      · show SC (fun p => kdQ (q p)) (N.toNat + t) + kdQ (q ((N.toNat + t : Nat) : Int)) * pw (3 * ((N.toNat + t : Nat) : Int)) = _
        rw [b1, h0, show kdQ 0 = 0 from rfl, Int.zero_mul, Int.add_zero]
      · show LC q (N.toNat + t) + (if q ((N.toNat + t : Nat) : Int) = 3 then pw ((N.toNat + t : Nat) : Int) else 0) = _
        rw [b2, h0, if_neg (by decide), Int.add_zero]
  obtain ⟨k1, k2⟩ := key (7 - N.toNat) (by omega)
  rw [show N.toNat + (7 - N.toNat) = 7 by omega] at k1 k2
  have hx := pk_at (u := fun p => kdQ (q p)) (x := kn) (H := 0) (fun k k0 k7 => by have := kdQ_b (hq k k0 k7).1 (hq k k0 k7).2; show 0 ≤ kdQ (q k) ∧ kdQ (q k) ≤ 7; omega) (by rw [k1, a3]; omega)
  refine fun p p0 p7 => ⟨hx.1 p p0 p7, ?_⟩
  rw [a4, ← k2]
  have e7 : LC q 7 = (if q 0 = 3 then 1 else 0) + (if q 1 = 3 then 2 else 0) + (if q 2 = 3 then 4 else 0) + (if q 3 = 3 then 8 else 0) + (if q 4 = 3 then 16 else 0) + (if q 5 = 3 then 32 else 0) + (if q 6 = 3 then 64 else 0) := by
    show 0 + (if q (0 : Nat) = 3 then pw (0 : Nat) else 0) + (if q (1 : Nat) = 3 then pw (1 : Nat) else 0) + (if q (2 : Nat) = 3 then pw (2 : Nat) else 0) + (if q (3 : Nat) = 3 then pw (3 : Nat) else 0) + (if q (4 : Nat) = 3 then pw (4 : Nat) else 0) + (if q (5 : Nat) = 3 then pw (5 : Nat) else 0) + (if q (6 : Nat) = 3 then pw (6 : Nat) else 0) = _
    rw [Int.zero_add]
    rfl
  rw [e7]
  have b : ∀ k : Int, ∀ z : Int, 0 ≤ z → (if q k = 3 then z else 0) = 0 ∨ (if q k = 3 then z else 0) = z := fun k z _ => by split <;> omega
  have t0 : ∀ k z : Int, (if q k = 3 then z else 0) = (if q k = 3 then 1 else 0) * z := fun k z => by split <;> omega
  rw [t0 1 2, t0 2 4, t0 3 8, t0 4 16, t0 5 32, t0 6 64]
  have c : ∀ k : Int, 0 ≤ (if q k = 3 then (1 : Int) else 0) ∧ (if q k = 3 then (1 : Int) else 0) ≤ 1 := fun k => by split <;> omega
  have fin : ∀ y0 y1 y2 y3 y4 y5 y6 : Int, (0 ≤ y0 ∧ y0 ≤ 1) → (0 ≤ y1 ∧ y1 ≤ 1) → (0 ≤ y2 ∧ y2 ≤ 1) → (0 ≤ y3 ∧ y3 ≤ 1) → (0 ≤ y4 ∧ y4 ≤ 1) → (0 ≤ y5 ∧ y5 ≤ 1) → (0 ≤ y6 ∧ y6 ≤ 1) → (y0 + y1 * 2 + y2 * 4 + y3 * 8 + y4 * 16 + y5 * 32 + y6 * 64) / 1 % 2 = y0 ∧ (y0 + y1 * 2 + y2 * 4 + y3 * 8 + y4 * 16 + y5 * 32 + y6 * 64) / 2 % 2 = y1 ∧ (y0 + y1 * 2 + y2 * 4 + y3 * 8 + y4 * 16 + y5 * 32 + y6 * 64) / 4 % 2 = y2 ∧ (y0 + y1 * 2 + y2 * 4 + y3 * 8 + y4 * 16 + y5 * 32 + y6 * 64) / 8 % 2 = y3 ∧ (y0 + y1 * 2 + y2 * 4 + y3 * 8 + y4 * 16 + y5 * 32 + y6 * 64) / 16 % 2 = y4 ∧ (y0 + y1 * 2 + y2 * 4 + y3 * 8 + y4 * 16 + y5 * 32 + y6 * 64) / 32 % 2 = y5 ∧ (y0 + y1 * 2 + y2 * 4 + y3 * 8 + y4 * 16 + y5 * 32 + y6 * 64) / 64 % 2 = y6 := by
    intro y0 y1 y2 y3 y4 y5 y6 h0 h1 h2 h3 h4 h5 h6
    refine ⟨?_, ?_, ?_, ?_, ?_, ?_, ?_⟩ <;> omega
  obtain ⟨f0, f1, f2, f3, f4, f5, f6⟩ := fin _ _ _ _ _ _ _ (c 0) (c 1) (c 2) (c 3) (c 4) (c 5) (c 6)
  have : p = 0 ∨ p = 1 ∨ p = 2 ∨ p = 3 ∨ p = 4 ∨ p = 5 ∨ p = 6 := by omega
  rcases this with rfl | rfl | rfl | rfl | rfl | rfl | rfl
  · rw [show pw 0 = 1 by decide]; exact f0
  · rw [show pw 1 = 2 by decide]; exact f1
  · rw [show pw 2 = 4 by decide]; exact f2
  · rw [show pw 3 = 8 by decide]; exact f3
  · rw [show pw 4 = 16 by decide]; exact f4
  · rw [show pw 5 = 32 by decide]; exact f5
  · rw [show pw 6 = 64 by decide]; exact f6
/-- e of a WORLD of the model, ahead of all EVENTS -/
theorem evF_Q {M : Mm} {w : Int} {q : Int → Int} (hq : ∀ p : Int, 0 ≤ p → p < 7 → 0 ≤ q p ∧ q p ≤ 5) (h : ∀ p : Int, 0 ≤ p → p < 7 → kiF M w p = kdQ (q p) ∧ M 743 w / pw p % 2 = if q p = 3 then 1 else 0) (hN : M 739 1 ≤ 7) : EVQ (M 739 1) (M 739 3) q (M 744 w) (M 745 w) (M 746 w) (fun _ => 0) (evF M w 0 0) := by
  refine ⟨fun p p0 p1 => ?_, evF_10, evF_11, evF_12, evF_13, fun p p0 p1 => ?_, fun p p0 p1 => hq p p0 (by omega)⟩
  · rw [evF_k (by omega)]
    exact (h p p0 (by omega)).1
  · rw [evF_20 p0 (by omega)]
    obtain ⟨a, b⟩ := h p p0 (by omega)
    have hp := hq p p0 (by omega)
    unfold lyF
    rw [a]
    have : q p = 0 ∨ q p = 1 ∨ q p = 2 ∨ q p = 3 ∨ q p = 4 ∨ q p = 5 := by omega
    rcases this with e | e | e | e | e | e <;> rw [e] at b ⊢
    · rfl
    · rfl
    · show tpF (fun k => M 748 k) p (M 743 w / pw p % 2) (0 : Int).toNat = 0
      rw [b]
      rfl
    · show tpF (fun k => M 748 k) p (M 743 w / pw p % 2) (0 : Int).toNat = 1 - 0
      rw [b]
      rfl
    · rfl
    · rfl
theorem evF_t0 {M : Mm} {w k : Int} (h : 0 ≤ k) : evF M w 0 0 (30 + k) ≠ 1 := by
  rw [evF_30 h, if_neg (by omega)]
  decide
/-- FACTS that were run so far -/
theorem fT_app (e : Ev) (K : List (List Int)) (o : List Int) : fT e (K ++ [o]) = (fT e K && hd0 (runR e o [])) := by
  induction K with
  | nil => show (hd0 (runR e o []) && true) = (true && _); rw [Bool.and_true, Bool.true_and]
  | cons a K ih =>
    show (hd0 (runR e a []) && fT e (K ++ [o])) = (hd0 (runR e a []) && fT e K && _)
    rw [ih, Bool.and_assoc]
def RNS (K : List (List Int)) : Prop := ∀ o ∈ K, ∃ v : Ev → Bool, ∀ e, OKE e → runR e o [] = [v e]
def KPI (u : Int → Int) (e : Ev) (K : List (List Int)) (n s z : Int) : Prop := ∃ K1 K2, K = K1 ++ K2 ∧ n = K1.length ∧ FLr u s K2 ∧ z = b2i (fT e K1)
theorem KPI_0 {u : Int → Int} {e : Ev} {K : List (List Int)} (h : FLr u 0 K) : KPI u e K 0 0 1 := ⟨[], K, rfl, rfl, h, rfl⟩
theorem KPI_h {u : Int → Int} {e : Ev} {K : List (List Int)} {n s z : Int} (h : KPI u e K n s z) (hn : n < K.length) (hr : RNS K) (he : OKE e) : ∃ o b, LST u s o ∧ runR e o [] = [b] ∧ ∀ w z2 n2 s2 : Int, w = b2i b → (z2 = 1 ∧ w = 1 ∧ z ≠ 0 ∨ z2 = 0 ∧ (w ≠ 1 ∨ z = 0)) → n2 = n + 1 → s2 = s + o.length + 1 → KPI u e K n2 s2 z2 := by
  obtain ⟨K1, K2, e1, e2, e3, e4⟩ := h
  cases K2 with
  | nil => rw [e1, List.append_nil] at hn; omega
  | cons o K2 =>
    obtain ⟨v, hv⟩ := hr o (by rw [e1]; exact List.mem_append.mpr (Or.inr (List.mem_cons_self)))
    refine ⟨o, v e, e3.1, hv e he, fun w z2 n2 s2 hw hz q1 q2 => ⟨K1 ++ [o], K2, by rw [e1, List.append_assoc]; rfl, by rw [List.length_append]; show n2 = ((K1.length + 1 : Nat) : Int); omega, by rw [q2]; exact e3.2, ?_⟩⟩
    rw [fT_app, hv e he]
    show z2 = b2i (fT e K1 && v e)
    rw [hw] at hz
    rw [e4] at hz
    cases h1 : fT e K1 <;> cases h2 : v e <;> rw [h1, h2] at hz
    · show z2 = 0
      rcases hz with ⟨-, -, c⟩ | ⟨c, -⟩
      · exact absurd rfl c
      · exact c
    · show z2 = 0
      rcases hz with ⟨-, -, c⟩ | ⟨c, -⟩
      · exact absurd rfl c
      · exact c
    · show z2 = 0
      rcases hz with ⟨-, c, -⟩ | ⟨c, -⟩
      · exact absurd c (by decide)
      · exact c
    · show z2 = 1
      rcases hz with ⟨c, -, -⟩ | ⟨-, c⟩
      · exact c
      · rcases c with c | c
        · exact absurd rfl c
        · exact absurd c (by decide)
theorem KPI_e {u : Int → Int} {e : Ev} {K : List (List Int)} {n s z : Int} (h : KPI u e K n s z) (hn : (K.length : Int) ≤ n) : z = b2i (fT e K) := by
  obtain ⟨K1, K2, e1, e2, e3, e4⟩ := h
  have : K2 = [] := by
    cases K2 with
    | nil => rfl
    | cons o K2 =>
      rw [e1, List.length_append, List.length_cons] at hn
      omega
  rw [e1, this, List.append_nil]
  exact e4
/-- what comes() puts down -/
def CMP (M0 M : Mm) (w r d y N : Int) : Prop := (∃ q : Int → Int, (∀ p : Int, 0 ≤ p → p < N → alQ (M0 740 p) (q p) ∧ rkQ (M0 740 p) (q p).toNat = M0 760 p) ∧ (∀ p : Int, N ≤ p → p < 7 → q p = 0) ∧ ∀ p : Int, 0 ≤ p → p < 7 → kiF M w p = kdQ (q p) ∧ M 743 w / pw p % 2 = if q p = 3 then 1 else 0) ∧ M 744 w = r ∧ M 745 w = d ∧ M 746 w = y ∧ M 751 w = 0 ∧ M 752 w = 0 ∧ ∀ a i : Int, i ≠ w → (a = 742 ∨ a = 743 ∨ a = 744 ∨ a = 745 ∨ a = 746 ∨ a = 751 ∨ a = 752) → M a i = M0 a i
/-- the WORLDS that were made of the first n -/
def WOK (M : Mm) (u : Int → Int) (R D W eD : Int) (K : List (List Int)) (w i : Int) : Prop := EVI (M 739 1) u R D W eD (M 739 3) i (evF M w 0 0) ∧ fT (evF M w 0 0) K = true ∧ M 751 w = 0 ∧ M 752 w = 0 ∧ ∀ p : Int, 0 ≤ p → p < 7 → (kiF M w p ≠ 2 → M 743 w / pw p % 2 = 0) ∧ (M 739 1 ≤ p → kiF M w p = 0)
def MKS (M : Mm) (u : Int → Int) (R D W eD : Int) (K : List (List Int)) (n : Int) : Prop := ∃ Kf : Int → Int, (∀ w v : Int, 0 ≤ w → w < v → v < M 739 7 → Kf w < Kf v) ∧ (∀ w : Int, 0 ≤ w → w < M 739 7 → 0 ≤ Kf w ∧ Kf w < n ∧ WOK M u R D W eD K w (Kf w)) ∧ ∀ m : Int, 0 ≤ m → m < n → (∃ w : Int, 0 ≤ w ∧ w < M 739 7 ∧ Kf w = m) ∨ ∃ e : Ev, OKE e ∧ EVI (M 739 1) u R D W eD (M 739 3) m e ∧ fT e K = false
theorem MKS_0 {M : Mm} {u : Int → Int} {R D W eD : Int} {K : List (List Int)} (h : M 739 7 = 0) {n : Int} (hn : n ≤ 0) : MKS M u R D W eD K n := ⟨fun _ => 0, fun w v a b c => by omega, fun w a b => by omega, fun m a b => by omega⟩
theorem evF_at {M M2 : Mm} {w t so : Int} (h : ∀ a : Int, (a = 742 ∨ a = 743 ∨ a = 744 ∨ a = 745 ∨ a = 746) → M2 a w = M a w) (h8 : ∀ k : Int, M2 748 k = M 748 k) (h1 : M2 739 1 = M 739 1) (h3 : M2 739 3 = M 739 3) : evF M2 w t so = evF M w t so := by
  have a6 : (fun k => M2 748 k) = (fun k => M 748 k) := funext h8
  funext k
  unfold evF lyF kiF
  rw [h 742 (by omega), h 743 (by omega), h 744 (by omega), h 745 (by omega), h 746 (by omega), a6, h1, h3]
theorem MKS_fr {M M2 : Mm} {u : Int → Int} {R D W eD n : Int} {K : List (List Int)} (p : MKS M u R D W eD K n) (h : ∀ a i : Int, (a = 742 ∨ a = 743 ∨ a = 744 ∨ a = 745 ∨ a = 746 ∨ a = 751 ∨ a = 752) → M2 a i = M a i) (h8 : ∀ k : Int, M2 748 k = M 748 k) (h1 : M2 739 1 = M 739 1) (h3 : M2 739 3 = M 739 3) (h7 : M2 739 7 = M 739 7) : MKS M2 u R D W eD K n := by
  obtain ⟨Kf, a, b, c⟩ := p
  unfold MKS WOK
  rw [h1, h3, h7]
  refine ⟨Kf, a, fun w w0 w1 => ?_, c⟩
  obtain ⟨x1, x2, x3, x4, x5, x6, x7⟩ := b w w0 w1
  rw [evF_at (fun a q => h a w (by omega)) h8 h1 h3, h 751 w (by omega), h 752 w (by omega)]
  refine ⟨x1, x2, x3, x4, x5, x6, fun p p0 p1 => ?_⟩
  have ek : kiF M2 w p = kiF M w p := by unfold kiF; rw [h 742 w (by omega)]
  rw [h 743 w (by omega), ek]
  exact x7 p p0 p1
/-- the number of a WORLD by its choices, ROAD, day and word -/
def NMx (c R r D d W y : Int) : Int := ((c * R + r) * D + d) * W + y
section NMs
variable {c R r D d W y : Int}
theorem NM_y (h : y = W) : NMx c R r D d W y = NMx c R r D (d + 1) W 0 := by
  unfold NMx
  rw [h, Int.add_zero, ← Int.add_assoc ((c * R + r) * D) d 1, Int.add_mul _ 1 W, Int.one_mul]
theorem NM_d (h : d = D) : NMx c R r D d W 0 = NMx c R (r + 1) D 0 W 0 := by
  unfold NMx
  rw [h, show (c * R + (r + 1)) * D + 0 = (c * R + r) * D + D by rw [Int.add_zero, ← Int.add_assoc, Int.add_mul _ 1 D, Int.one_mul]]
theorem NM_r (h : r = R) : NMx c R r D 0 W 0 = NMx (c + 1) R 0 D 0 W 0 := by
  unfold NMx
  rw [h, Int.add_mul c 1 R, Int.one_mul, Int.add_zero (c * R + R)]
theorem NM_nn (hc : 0 ≤ c) (hR : 0 ≤ R) (hr : 0 ≤ r) (hD : 0 ≤ D) (hd : 0 ≤ d) (hW : 0 ≤ W) (hy : 0 ≤ y) : 0 ≤ NMx c R r D d W y := Int.add_nonneg (Int.mul_nonneg (Int.add_nonneg (Int.mul_nonneg (Int.add_nonneg (Int.mul_nonneg hc hR) hr) hD) hd) hW) hy
theorem NM_0 : NMx c R 0 D 0 W 0 = c * R * D * W := by
  unfold NMx
  rw [Int.add_zero, Int.add_zero, Int.add_zero]
theorem NM_s : NMx c R r D d W y + 1 = NMx c R r D d W (y + 1) := Int.add_assoc _ _ _
end NMs
theorem MKS_n {M : Mm} {u : Int → Int} {R D W eD n n2 : Int} {K : List (List Int)} (h : MKS M u R D W eD K n) (e : n = n2) : MKS M u R D W eD K n2 := e ▸ h
theorem DC_all {M : Mm} {N cv p : Int} (h : DCI M N p cv) (hp : p = -1) : cv + 1 = PRD (fun k => M 740 k) 0 N.toNat := by
  rw [hp] at h
  have h2 := h.2
  rw [show (-1 : Int) + 1 = 0 by decide, Int.sub_zero] at h2
  have e : HH (fun k => M 760 k) (fun k => M 740 k) (0 : Int).toNat = 0 := rfl
  rw [e, show (0 : Int) + 1 = 1 by decide, Int.one_mul] at h2
  exact h2.symm
theorem MKS_st {M M2 : Mm} {u : Int → Int} {R D W eD n r d y dd cv : Int} {K : List (List Int)} (p : MKS M u R D W eD K n) (hc : CMP M M2 (M 739 7) r dd y (M 739 1)) (h8 : ∀ k : Int, M2 748 k = M 748 k) (h1 : M2 739 1 = M 739 1) (h3 : M2 739 3 = M 739 3) (h7 : M2 739 7 = M 739 7 + b2i (fT (evF M2 (M 739 7) 0 0) K)) (hw : 0 ≤ M 739 7) (hN : 0 ≤ M 739 1 ∧ M 739 1 ≤ 7) (hu : ∀ k : Int, M 740 k = u k) (hr : 0 ≤ r ∧ r < R) (hd : 0 ≤ d ∧ d < D) (hy : 0 ≤ y ∧ y < W) (edd : dd = eD + d) (n0 : 0 ≤ n) (hv : VC M = cv) (hn : n = NMx cv R r D d W y) : MKS M2 u R D W eD K (n + 1) := by
  obtain ⟨⟨q, q1, q2, q3⟩, c1, c2, c3, c4, c5, c6⟩ := hc
  obtain ⟨Kf, a, b, c⟩ := p
  have hq5 : ∀ p : Int, 0 ≤ p → p < 7 → 0 ≤ q p ∧ q p ≤ 5 := fun p p0 p7 => by
    by_cases x : p < M 739 1
    · exact ⟨(q1 p p0 x).1.1, (q1 p p0 x).1.2.1⟩
    · rw [q2 p (by omega) p7]; exact ⟨by decide, by decide⟩
  have hE := evF_Q (M := M2) (w := M 739 7) hq5 q3 (by rw [h1]; exact hN.2)
  rw [h1, h3, c1, c2, c3, edd] at hE
  have hI : EVI (M 739 1) u R D W eD (M 739 3) n (evF M2 (M 739 7) 0 0) := by
    refine ⟨q, r, d, y, ⟨fun p p0 p1 => by rw [← hu p]; exact (q1 p p0 p1).1, q2, hr.1, hr.2, hd.1, hd.2, hy.1, hy.2, ?_⟩, hE, fun k k0 => evF_t0 k0⟩
    have ev : hq u q (M 739 1) = cv := by
      rw [← hv]
      unfold VC
      rw [show (fun k => M 740 k) = u from funext hu]
      exact HH_cong _ fun k hk => by
        have := (q1 k (by omega) (by omega)).2
        rw [hu k] at this
        exact this
    rw [hn, ev]
    rfl
  have old : ∀ w : Int, w < M 739 7 → evF M2 w 0 0 = evF M w 0 0 := fun w q9 => evF_at (fun a q => c6 a w (by omega) (by omega)) h8 h1 h3
  have wok : ∀ w : Int, 0 ≤ w → w < M 739 7 → WOK M2 u R D W eD K w (Kf w) := fun w w0 w1 => by
    obtain ⟨-, -, d1, d2, d3, d4, d5⟩ := b w w0 w1
    unfold WOK
    rw [old w w1, h1, h3, c6 751 w (by omega) (by omega), c6 752 w (by omega) (by omega)]
    refine ⟨d1, d2, d3, d4, fun p p0 p1 => ?_⟩
    have ek : kiF M2 w p = kiF M w p := by unfold kiF; rw [c6 742 w (by omega) (by omega)]
    rw [c6 743 w (by omega) (by omega), ek]
    exact d5 p p0 p1
  by_cases ft : fT (evF M2 (M 739 7) 0 0) K = true
  · have h7' : M2 739 7 = M 739 7 + 1 := by rw [h7, ft]; rfl
    refine ⟨fun w => if w = M 739 7 then n else Kf w, fun w v w0 w1 w2 => ?_, fun w w0 w1 => ?_, fun m m0 m1 => ?_⟩
    · show (if w = M 739 7 then n else Kf w) < (if v = M 739 7 then n else Kf v)
      rw [if_neg (by omega)]
      by_cases x : v = M 739 7
      · rw [if_pos x]; exact (b w w0 (by omega)).2.1
      · rw [if_neg x]; exact a w v w0 w1 (by omega)
    · show 0 ≤ (if w = M 739 7 then n else Kf w) ∧ (if w = M 739 7 then n else Kf w) < n + 1 ∧ WOK M2 u R D W eD K w (if w = M 739 7 then n else Kf w)
      by_cases x : w = M 739 7
      · rw [if_pos x, x]
        refine ⟨n0, by omega, ?_⟩
        unfold WOK
        rw [h1, h3]
        refine ⟨hI, ft, c4, c5, fun p p0 p1 => ?_⟩
        obtain ⟨e1, e2⟩ := q3 p p0 p1
        refine ⟨fun pk => ?_, fun pn => by rw [e1, q2 p pn p1]; decide⟩
        rw [e2, if_neg]
        intro e3
        rw [e3] at e1
        exact pk (e1.trans (by decide))
      · rw [if_neg x]
        have := b w w0 (by omega)
        exact ⟨this.1, by omega, wok w w0 (by omega)⟩
    · by_cases x : m = n
      · exact Or.inl ⟨M 739 7, hw, by omega, by show (if M 739 7 = M 739 7 then n else _) = m; rw [if_pos rfl, x]⟩
      · rcases c m m0 (by omega) with ⟨w, w0, w1, w2⟩ | y
        · exact Or.inl ⟨w, w0, by omega, by show (if w = M 739 7 then n else Kf w) = m; rw [if_neg (by omega)]; exact w2⟩
        · rw [h1, h3]
          exact Or.inr y
  · have ft : fT (evF M2 (M 739 7) 0 0) K = false := by cases x : fT (evF M2 (M 739 7) 0 0) K <;> simp_all
    have h7' : M2 739 7 = M 739 7 := by rw [h7, ft]; show M 739 7 + 0 = _; omega
    refine ⟨Kf, fun w v w0 w1 w2 => a w v w0 w1 (by omega), fun w w0 w1 => ?_, fun m m0 m1 => ?_⟩
    · have := b w w0 (by omega)
      exact ⟨this.1, by omega, wok w w0 (by omega)⟩
    · by_cases x : m = n
      · refine Or.inr ⟨evF M2 (M 739 7) 0 0, evF_ok (by omega) (by omega) (by decide), ?_, ft⟩
        rw [h1, h3, x]
        exact hI
      · rw [h1, h3, h7']
        exact c m m0 (by omega)
/-! ===== the model's EVENTS ===== -/
theorem cs_2 {e : Ev} {p wd z : Int} {s : Bool} (h : e (20 + p) = 2) (hz : z = 1) : z = b2i (csV e p wd s) := by
  unfold csV
  rw [if_pos h, hz]
  rfl
theorem cs_mk {e : Ev} {p wd ly so y x z : Int} {s : Bool} (h : e (20 + p) = ly) (h2 : ly ≠ 2) (hy : e 12 = y) (hs : so = b2i s) (hx : (x = 1 ∧ (wd = -1 ∨ y = wd)) ∨ (x = 0 ∧ wd ≠ -1 ∧ y ≠ wd)) (hz : (ly = 1 ∧ (z = 1 ∧ 1 - so = x ∨ z = 0 ∧ 1 - so ≠ x)) ∨ (ly ≠ 1 ∧ (z = 1 ∧ so = x ∨ z = 0 ∧ so ≠ x))) : z = b2i (csV e p wd s) := by
  unfold csV
  rw [h, hy, if_neg h2]
  have b := b2i_b s
  rw [← hs] at b
  rcases hx with ⟨x1, x2⟩ | ⟨x1, x2⟩
  · rw [decide_eq_true x2]
    by_cases l1 : ly = 1
    · rw [if_pos l1]
      cases s
      · have : so = 0 := hs
        show z = 1
        omega
      · have : so = 1 := hs
        show z = 0
        omega
    · rw [if_neg l1]
      cases s
      · have : so = 0 := hs
        show z = 0
        omega
      · have : so = 1 := hs
        show z = 1
        omega
  · rw [decide_eq_false (show ¬ (wd = -1 ∨ y = wd) by omega)]
    by_cases l1 : ly = 1
    · rw [if_pos l1]
      cases s
      · have : so = 0 := hs
        show z = 0
        omega
      · have : so = 1 := hs
        show z = 1
        omega
    · rw [if_neg l1]
      cases s
      · have : so = 0 := hs
        show z = 1
        omega
      · have : so = 1 := hs
        show z = 0
        omega
theorem or_bit {x v k c r : Int} (hx : 0 ≤ x ∧ x < pw k) (hc : 0 ≤ c) (hv : v = c * pw k) (hr : r = ((x.toNat ||| v.toNat : Nat) : Int)) : r = x + pw k * c := by
  have hp := pw_pos k
  have e : pw k = ((2 ^ k.toNat : Nat) : Int) := by
    show (2 : Int) ^ k.toNat = _
    rw [Int.natCast_pow]
    rfl
  have h1 : v.toNat = c.toNat * 2 ^ k.toNat := by
    rw [hv, e]
    have : c = (c.toNat : Int) := by omega
    rw [this, ← Int.natCast_mul, Int.toNat_natCast, Int.toNat_natCast]
  rw [hr, h1, or_hi (by rw [e] at hx; omega), e]
  rw [Int.natCast_add, Int.natCast_mul, show ((c.toNat : Nat) : Int) = c by omega, Int.mul_comm c]
  omega
theorem and_lo {x k r : Int} (hx : 0 ≤ x) (hr : r = ((x.toNat &&& (pw k - 1).toNat : Nat) : Int)) : r = x % pw k := by
  have e : pw k = ((2 ^ k.toNat : Nat) : Int) := by
    show (2 : Int) ^ k.toNat = _
    rw [Int.natCast_pow]
    rfl
  have h1 : (pw k - 1).toNat = 2 ^ k.toNat - 1 := by
    rw [e]
    have := Nat.two_pow_pos k.toNat
    omega
  rw [hr, h1, Nat.and_two_pow_sub_one_eq_mod, e, Int.natCast_emod]
  have : x = (x.toNat : Int) := by omega
  rw [← this]
theorem tpF_cg {u v : Int → Int} {p x : Int} : ∀ n : Nat, (∀ k : Nat, k < n → u k = v k) → tpF u p x n = tpF v p x n := by
  intro n
  induction n with
  | zero => intro _; rfl
  | succ n ih =>
    intro h
    show (if u n = p then 1 - tpF u p x n else tpF u p x n) = (if v n = p then 1 - tpF v p x n else tpF v p x n)
    rw [ih (fun k hk => h k (by omega)), h n (by omega)]
/-- who is put down for an EVENT to come doesn't count yet -/
theorem evF_748 {M M2 : Mm} {w t so : Int} (h : ∀ a : Int, (a = 742 ∨ a = 743 ∨ a = 744 ∨ a = 745 ∨ a = 746) → M2 a w = M a w) (h8 : ∀ k : Int, k < t → M2 748 k = M 748 k) (h1 : M2 739 1 = M 739 1) (h3 : M2 739 3 = M 739 3) : evF M2 w t so = evF M w t so := by
  have hly : ∀ p : Int, lyF M2 w p t = lyF M w p t := fun p => by
    unfold lyF kiF
    rw [h 742 (by omega), h 743 (by omega), h 745 (by omega), h3, tpF_cg (u := fun k => M2 748 k) (v := fun k => M 748 k) _ (fun k hk => h8 k (by omega))]
  funext k
  unfold evF
  rw [hly]
  unfold kiF
  rw [h 742 (by omega), h 744 (by omega), h 745 (by omega), h 746 (by omega), h1]
/-- what the WORLDS of the first l say of the EVENT k: who p, SENTENCE L, word wd -/
def EVW (M0 M : Mm) (L : List Int) (k p wd l : Int) : Prop := (∀ w : Int, 0 ≤ w → w < l → ∀ b, runR (evF M0 w k (M0 751 w)) L [] = [b] → M 751 w = M0 751 w + pw k * b2i b ∧ M 752 w = M0 752 w + pw k * b2i (csV (evF M0 w k (M0 751 w)) p wd b)) ∧ ∀ w : Int, l ≤ w → M 751 w = M0 751 w ∧ M 752 w = M0 752 w
theorem EVW_0 {M0 M : Mm} {L : List Int} {k p wd : Int} (h : ∀ a i : Int, (a = 751 ∨ a = 752) → M a i = M0 a i) : EVW M0 M L k p wd 0 := ⟨fun w a b => by omega, fun w _ => ⟨h 751 w (by omega), h 752 w (by omega)⟩⟩
theorem EVW_st {M0 M M2 : Mm} {L : List Int} {k p wd l c d : Int} (h : EVW M0 M L k p wd l) (h1 : ∀ i : Int, M2 751 i = if i = l then M0 751 l + pw k * c else M 751 i) (h2 : ∀ i : Int, M2 752 i = if i = l then M0 752 l + pw k * d else M 752 i) (hc : ∀ b, runR (evF M0 l k (M0 751 l)) L [] = [b] → c = b2i b ∧ d = b2i (csV (evF M0 l k (M0 751 l)) p wd b)) : EVW M0 M2 L k p wd (l + 1) := by
  refine ⟨fun w a b x hx => ?_, fun w a => ?_⟩
  · rw [h1, h2]
    by_cases q : w = l
    · rw [if_pos q, if_pos q]
      rw [q] at hx
      obtain ⟨e1, e2⟩ := hc x hx
      rw [q, ← e1, ← e2]
      exact ⟨rfl, rfl⟩
    · rw [if_neg q, if_neg q]
      exact h.1 w a (by omega) x hx
  · rw [h1, h2, if_neg (by omega), if_neg (by omega)]
    exact h.2 w (by omega)
theorem EVW_fr {M0 M M2 : Mm} {L : List Int} {k p wd l : Int} (h : EVW M0 M L k p wd l) (e : ∀ a i : Int, (a = 751 ∨ a = 752) → M2 a i = M a i) : EVW M0 M2 L k p wd l := ⟨fun w a b x hx => by rw [e 751 w (by omega), e 752 w (by omega)]; exact h.1 w a b x hx, fun w a => by rw [e 751 w (by omega), e 752 w (by omega)]; exact h.2 w a⟩
theorem rp_mk {e : Ev} {p ly so y z so2 : Int} {b : Bool} (h : e (20 + p) = ly) (h2 : ly ≠ 2) (hy : e 12 = y) (hy2 : 0 ≤ y ∧ y ≤ 1) (hs : so = b2i b) (hso : (ly = 1 ∧ so2 = 1 - so) ∨ (ly ≠ 1 ∧ so2 = so)) (hz : (so2 = 1 ∧ z = y) ∨ (so2 ≠ 1 ∧ z = 1 - y)) : z = 1 - b2i (csV e p 0 b) := by
  have b1 := b2i_b b
  rw [← hs] at b1
  have c := cs_mk (x := 1 - y) (wd := 0) (z := 1 - z) h h2 hy hs (by omega) (by omega)
  omega
theorem EVW_bs {M0 M1 M : Mm} {L : List Int} {k p wd l : Int} (h : EVW M1 M L k p wd l) (e : ∀ a i : Int, (a = 742 ∨ a = 743 ∨ a = 744 ∨ a = 745 ∨ a = 746 ∨ a = 748 ∨ a = 751 ∨ a = 752) → M1 a i = M0 a i) (h1 : M1 739 1 = M0 739 1) (h3 : M1 739 3 = M0 739 3) : EVW M0 M L k p wd l := by
  have ev : ∀ w so : Int, evF M1 w k so = evF M0 w k so := fun w so => evF_748 (fun a q => e a w (by omega)) (fun j _ => e 748 j (by omega)) h1 h3
  refine ⟨fun w a b x hx => ?_, fun w a => ?_⟩
  · rw [← ev, ← e 751 w (by omega)] at hx
    rw [← e 751 w (by omega), ← e 752 w (by omega), ← ev]
    exact h.1 w a b x hx
  · rw [← e 751 w (by omega), ← e 752 w (by omega)]
    exact h.2 w a
