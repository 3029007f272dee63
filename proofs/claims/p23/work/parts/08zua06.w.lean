/-! ===== WORLDS by their number ===== -/
/-- the KIND of a code: 0 HONEST, 1 LIAR, 2 TURNER, 3 one that is a LIAR at first, 4 DAYER, 5 FREE -/
def kdQ (q : Int) : Int := if q ≤ 2 then q else q - 1
theorem kdQ_b {q : Int} (h0 : 0 ≤ q) (h5 : q ≤ 5) : 0 ≤ kdQ q ∧ kdQ q ≤ 4 := by
  unfold kdQ
  split <;> omega
def alQ (m q : Int) : Prop := 0 ≤ q ∧ q ≤ 5 ∧ m / pw (kdQ q) % 2 = 1
/-- how many codes of a row of KINDS are ahead -/
def rkQ (m : Int) : Nat → Int
  | 0 => 0
  | n + 1 => rkQ m n + (if m / pw (kdQ n) % 2 = 1 then 1 else 0)
theorem rkQ_nn (m : Int) : ∀ n : Nat, 0 ≤ rkQ m n := by
  intro n
  induction n with
  | zero => exact Int.le_refl _
  | succ n ih =>
    show 0 ≤ rkQ m n + (if m / pw (kdQ n) % 2 = 1 then 1 else 0)
    split <;> omega
theorem rkQ_mono (m : Int) {a : Nat} : ∀ b : Nat, a ≤ b → rkQ m a ≤ rkQ m b := by
  intro b
  induction b with
  | zero => intro h; rw [show a = 0 by omega]; exact Int.le_refl _
  | succ b ih =>
    intro h
    by_cases q : a = b + 1
    · rw [q]; exact Int.le_refl _
    · have h1 := ih (by omega)
      show rkQ m a ≤ rkQ m b + (if m / pw (kdQ b) % 2 = 1 then 1 else 0)
      split <;> omega
theorem rkQ_flat (m : Int) {a : Nat} : ∀ b : Nat, a ≤ b → (∀ q : Nat, a ≤ q → q < b → m / pw (kdQ q) % 2 ≠ 1) → rkQ m b = rkQ m a := by
  intro b
  induction b with
  | zero => intro h _; rw [show a = 0 by omega]
  | succ b ih =>
    intro h hz
    by_cases q : a = b + 1
    · rw [q]
    · show rkQ m b + (if m / pw (kdQ b) % 2 = 1 then 1 else 0) = rkQ m a
      rw [if_neg (hz b (by omega) (by omega)), ih (by omega) (fun k h1 h2 => hz k h1 (by omega)), Int.add_zero]
theorem rkQ_s {m q : Int} (h : alQ m q) : rkQ m (q.toNat + 1) = rkQ m q.toNat + 1 := by
  show rkQ m q.toNat + (if m / pw (kdQ (q.toNat : Nat)) % 2 = 1 then 1 else 0) = _
  rw [show ((q.toNat : Nat) : Int) = q by have := h.1; omega, if_pos h.2.2]
theorem rk_lt {m q q2 : Int} (h : alQ m q) (hl : q < q2) : rkQ m q.toNat < rkQ m q2.toNat := by
  have h1 := rkQ_s h
  have h2 := rkQ_mono m (a := q.toNat + 1) q2.toNat (by have := h.1; omega)
  omega
theorem rk_inj {m q q2 : Int} (h : alQ m q) (h2 : alQ m q2) (e : rkQ m q.toNat = rkQ m q2.toNat) : q = q2 := by
  rcases Int.lt_trichotomy q q2 with x | x | x
  · have := rk_lt h x; omega
  · exact x
  · have := rk_lt h2 x; omega
theorem cT_rkN : ∀ n : Nat, n < 32 → cT (n : Int) = rkQ (n : Int) 6 := by decide +kernel
theorem cT_rk {m : Int} (h0 : 0 ≤ m) (h1 : m ≤ 31) : cT m = rkQ m 6 := by
  have := cT_rkN m.toNat (by omega)
  rw [show ((m.toNat : Nat) : Int) = m by omega] at this
  exact this
theorem rk_ct {m q : Int} (h0 : 0 ≤ m) (h1 : m ≤ 31) (h : alQ m q) : rkQ m q.toNat + 1 ≤ cT m := by
  rw [cT_rk h0 h1]
  have h2 := rkQ_s h
  have h3 := rkQ_mono m (a := q.toNat + 1) 6 (by have := h.1; have := h.2.1; omega)
  omega
/-- the next code, or none -/
def NBQ (m c z : Int) : Prop := (z = -1 ∧ ∀ q : Int, c < q → q ≤ 5 → m / pw (kdQ q) % 2 ≠ 1) ∨ (c < z ∧ alQ m z ∧ ∀ q : Int, c < q → q < z → m / pw (kdQ q) % 2 ≠ 1)
theorem NBQ_rk {m c z : Int} (h : NBQ m c z) (hz : z ≠ -1) (hc : alQ m c) : alQ m z ∧ rkQ m z.toNat = rkQ m c.toNat + 1 := by
  rcases h with ⟨a, -⟩ | ⟨a, b, d⟩
  · exact absurd a hz
  · refine ⟨b, ?_⟩
    rw [← rkQ_s hc]
    have := hc.1
    exact rkQ_flat m z.toNat (by omega) (fun q h1 h2 => d q (by omega) (by omega))
theorem NBQ_max {m c z : Int} (h : NBQ m c z) (hz : z = -1) (hc : alQ m c) (h0 : 0 ≤ m) (h1 : m ≤ 31) : cT m = rkQ m c.toNat + 1 := by
  rcases h with ⟨a, d⟩ | ⟨a, b, d⟩
  · rw [cT_rk h0 h1, ← rkQ_s hc]
    have := hc.1
    have := hc.2.1
    exact rkQ_flat m 6 (by omega) (fun q h1 h2 => d q (by omega) (by omega))
  · have := b.1; omega
theorem NBQ_0 {m z : Int} (h : NBQ m (-1) z) (h0 : 0 ≤ m) (h1 : m ≤ 31) (hm : 1 ≤ m) : alQ m z ∧ rkQ m z.toNat = 0 := by
  rcases h with ⟨a, d⟩ | ⟨a, b, d⟩
  · exfalso
    have h2 := cT_pos ⟨hm, h1⟩
    rw [cT_rk h0 h1, rkQ_flat m (a := 0) 6 (by omega) (fun q _ h2 => d q (by omega) (by omega))] at h2
    exact absurd (show (1 : Int) ≤ 0 from h2) (by decide)
  · exact ⟨b, rkQ_flat m (a := 0) z.toNat (by omega) (fun q _ h2 => d q (by omega) (by omega))⟩
/-- two digits of one number -/
theorem dg_one {x x2 n c c2 : Int} (h : x * n + c = x2 * n + c2) (h0 : 0 ≤ c) (h1 : c < n) (h2 : 0 ≤ c2) (h3 : c2 < n) : x = x2 ∧ c = c2 := by
  have e1 : (x * n + c) / n = x := by rw [Int.add_comm, Int.add_mul_ediv_right _ _ (by omega), Int.ediv_eq_zero_of_lt h0 h1, Int.zero_add]
  have e2 : (x2 * n + c2) / n = x2 := by rw [Int.add_comm, Int.add_mul_ediv_right _ _ (by omega), Int.ediv_eq_zero_of_lt h2 h3, Int.zero_add]
  have e : x = x2 := by rw [← e1, ← e2, h]
  refine ⟨e, ?_⟩
  subst e
  omega
theorem dg_up {x n c : Int} (h : c = n - 1) : (x * n + c) + 1 = (x + 1) * n + 0 := by
  rw [Int.add_mul, Int.one_mul]
  omega
theorem HH_one {u v m : Int → Int} : ∀ n : Nat, (∀ k : Nat, k < n → 0 ≤ u k ∧ u k < cT (m k) ∧ 0 ≤ v k ∧ v k < cT (m k)) → HH u m n = HH v m n → ∀ k : Nat, k < n → u k = v k := by
  intro n
  induction n with
  | zero => intro _ _ k hk; exact absurd hk (Nat.not_lt_zero _)
  | succ n ih =>
    intro h e k hk
    obtain ⟨a0, a1, a2, a3⟩ := h n (by omega)
    have e2 : HH u m n * cT (m n) + u n = HH v m n * cT (m n) + v n := e
    obtain ⟨b1, b2⟩ := dg_one e2 a0 a1 a2 a3
    by_cases q : k = n
    · rw [q]; exact b2
    · exact ih (fun j hj => h j (by omega)) b1 k (by omega)
/-- WORLD i of those ahead of FACTS: N PEOPLE that may be of KINDS u, R ROADS, D days, W words -/
def hq (u q : Int → Int) (N : Int) : Int := HH (fun p => rkQ (u p) (q p).toNat) u N.toNat
def IDX (N : Int) (u : Int → Int) (R D W i : Int) (q : Int → Int) (r d y : Int) : Prop := (∀ p : Int, 0 ≤ p → p < N → alQ (u p) (q p)) ∧ (∀ p : Int, N ≤ p → p < 7 → q p = 0) ∧ 0 ≤ r ∧ r < R ∧ 0 ≤ d ∧ d < D ∧ 0 ≤ y ∧ y < W ∧ i = ((hq u q N * R + r) * D + d) * W + y
section IDXs
variable {N R D W i : Int} {u q q2 : Int → Int} {r d y r2 d2 y2 : Int}
theorem IDX_one (hu : ∀ p : Int, 0 ≤ p → p < N → 0 ≤ u p ∧ u p ≤ 31) (h : IDX N u R D W i q r d y) (h2 : IDX N u R D W i q2 r2 d2 y2) : (∀ p : Int, 0 ≤ p → p < 7 → q p = q2 p) ∧ r = r2 ∧ d = d2 ∧ y = y2 := by
  obtain ⟨a, a', b1, b2, b3, b4, b5, b6, e⟩ := h
  obtain ⟨c, c', d1, d2', d3, d4, d5, d6, e2⟩ := h2
  rw [e] at e2
  obtain ⟨f1, g1⟩ := dg_one e2 b5 b6 d5 d6
  obtain ⟨f2, g2⟩ := dg_one f1 b3 b4 d3 d4
  obtain ⟨f3, g3⟩ := dg_one f2 b1 b2 d1 d2'
  have key := HH_one N.toNat (u := fun p => rkQ (u p) (q p).toNat) (v := fun p => rkQ (u p) (q2 p).toNat) (m := u) (fun k hk => by
    have h1 := hu k (by omega) (by omega)
    have h3 := rk_ct h1.1 h1.2 (a k (by omega) (by omega))
    have h4 := rk_ct h1.1 h1.2 (c k (by omega) (by omega))
    have h5 := rkQ_nn (u k) (q k).toNat
    have h6 := rkQ_nn (u k) (q2 k).toNat
    exact ⟨h5, by show rkQ (u k) (q k).toNat < _; omega, h6, by show rkQ (u k) (q2 k).toNat < _; omega⟩) f3
  refine ⟨fun p p0 p7 => ?_, g3, g2, g1⟩
  by_cases hp : p < N
  · have h1 := key p.toNat (by omega)
    rw [show ((p.toNat : Nat) : Int) = p by omega] at h1
    exact rk_inj (a p p0 hp) (c p p0 hp) h1
  · rw [a' p (by omega) p7, c' p (by omega) p7]
theorem IDX_y (h : IDX N u R D W i q r d y) (hy : y + 1 < W) (e : y2 = y + 1) : IDX N u R D W (i + 1) q r d y2 := by
  obtain ⟨a, a', b1, b2, b3, b4, b5, b6, e'⟩ := h
  exact ⟨a, a', b1, b2, b3, b4, by omega, by omega, by rw [e', e]; omega⟩
theorem IDX_d (h : IDX N u R D W i q r d y) (hy : y = W - 1) (hd : d + 1 < D) (e : d2 = d + 1) (e2 : y2 = 0) : IDX N u R D W (i + 1) q r d2 y2 := by
  obtain ⟨a, a', b1, b2, b3, b4, b5, b6, e'⟩ := h
  refine ⟨a, a', b1, b2, by omega, by omega, by omega, by omega, ?_⟩
  rw [e', dg_up hy, e, e2]
  congr 2
  omega
theorem IDX_r (h : IDX N u R D W i q r d y) (hy : y = W - 1) (hd : d = D - 1) (hr : r + 1 < R) (e : r2 = r + 1) (e1 : d2 = 0) (e2 : y2 = 0) : IDX N u R D W (i + 1) q r2 d2 y2 := by
  obtain ⟨a, a', b1, b2, b3, b4, b5, b6, e'⟩ := h
  refine ⟨a, a', by omega, by omega, by omega, by omega, by omega, by omega, ?_⟩
  rw [e', dg_up hy, dg_up hd, e, e1, e2, Int.add_assoc _ r 1]
theorem IDX_p (h : IDX N u R D W i q r d y) (hy : y = W - 1) (hd : d = D - 1) (hr : r = R - 1) (hq2 : hq u q2 N = hq u q N + 1) (ha : ∀ p : Int, 0 ≤ p → p < N → alQ (u p) (q2 p)) (hz : ∀ p : Int, N ≤ p → p < 7 → q2 p = 0) (e : r2 = 0) (e1 : d2 = 0) (e2 : y2 = 0) : IDX N u R D W (i + 1) q2 r2 d2 y2 := by
  obtain ⟨a, a', b1, b2, b3, b4, b5, b6, e'⟩ := h
  refine ⟨ha, hz, by omega, by omega, by omega, by omega, by omega, by omega, ?_⟩
  rw [e', dg_up hy, dg_up hd, dg_up hr, hq2, e, e1, e2]
/-- the last of all -/
theorem IDX_last (h : IDX N u R D W i q r d y) (hy : y = W - 1) (hd : d = D - 1) (hr : r = R - 1) {P : Int} (hP : hq u q N + 1 = P) : i + 1 = P * R * D * W := by
  obtain ⟨a, a', b1, b2, b3, b4, b5, b6, e'⟩ := h
  rw [e', dg_up hy, dg_up hd, dg_up hr, hP, Int.add_zero, Int.add_zero, Int.add_zero]
theorem IDX_cg (h : IDX N u R D W i q r d y) (h0N : 0 ≤ N) (hq2 : ∀ p : Int, 0 ≤ p → p < 7 → q2 p = q p) (hN : N ≤ 7) (e : r2 = r) (e1 : d2 = d) (e2 : y2 = y) : IDX N u R D W i q2 r2 d2 y2 := by
  obtain ⟨a, a', b1, b2, b3, b4, b5, b6, e'⟩ := h
  rw [e, e1, e2]
  refine ⟨fun p p0 p1 => by rw [hq2 p p0 (by omega)]; exact a p p0 p1, fun p p0 p1 => by by_cases x : 0 ≤ p; (rw [hq2 p x p1]; exact a' p p0 p1); (exfalso; omega), b1, b2, b3, b4, b5, b6, ?_⟩
  rw [e']
  have : hq u q2 N = hq u q N := HH_cong N.toNat (fun k hk => by show rkQ (u k) (q2 k).toNat = rkQ (u k) (q k).toNat; rw [hq2 k (by omega) (by omega)])
  rw [this]
end IDXs
/-- the odometer: those behind p are least again -/
def DCQ (u q : Int → Int) (N p cv : Int) : Prop := (∀ k : Int, p < k → k < N → alQ (u k) (q k) ∧ rkQ (u k) (q k).toNat = 0) ∧ (HH (fun k => rkQ (u k) (q k).toNat) u (p + 1).toNat + 1) * PRD u (p + 1) (N - (p + 1)).toNat = cv + 1
theorem DCQ_in {u q : Int → Int} {N p : Int} (hp : p + 1 = N) : DCQ u q N p (hq u q N) := by
  refine ⟨fun k a b => by omega, ?_⟩
  rw [hp, Int.sub_self]
  exact Int.mul_one _
theorem DCQ_st {u q q2 : Int → Int} {N p cv v : Int} (h : DCQ u q N p cv) (h0 : 0 ≤ p) (h1 : p < N) (hx : cT (u p) = rkQ (u p) (q p).toNat + 1) (hv : alQ (u p) v ∧ rkQ (u p) v.toNat = 0) (e : ∀ k : Int, q2 k = if k = p then v else q k) : DCQ u q2 N (p - 1) cv := by
  obtain ⟨a1, a2⟩ := h
  refine ⟨fun k b1 b2 => ?_, ?_⟩
  · rw [e]
    by_cases x : k = p
    · rw [if_pos x, x]; exact hv
    · rw [if_neg x]; exact a1 k (by omega) b2
  · obtain ⟨j, rfl⟩ := Int.eq_ofNat_of_zero_le h0
    obtain ⟨t, ht⟩ : ∃ t : Nat, N = j + 1 + t := ⟨(N - (j + 1)).toNat, by omega⟩
    rw [show ((j : Int) + 1).toNat = j + 1 by omega, show (N - ((j : Int) + 1)).toNat = t by omega] at a2
    rw [show ((j : Int) - 1 + 1) = j by omega, Int.toNat_natCast, show (N - (j : Int)).toNat = t + 1 by omega, PRD_hd, ← a2]
    have h2 : HH (fun k => rkQ (u k) (q2 k).toNat) u j = HH (fun k => rkQ (u k) (q k).toNat) u j := HH_cong j (fun k hk => by show rkQ (u k) (q2 k).toNat = rkQ (u k) (q k).toNat; rw [e, if_neg (by omega)])
    rw [h2, ← Int.mul_assoc]
    congr 1
    show _ = HH (fun k => rkQ (u k) (q k).toNat) u j * cT (u j) + rkQ (u j) (q j).toNat + 1
    rw [Int.add_mul, Int.one_mul, hx]
    omega
theorem DCQ_inc {u q q2 : Int → Int} {N p cv v : Int} (h : DCQ u q N p cv) (h0 : 0 ≤ p) (h1 : p < N) (hv : rkQ (u p) v.toNat = rkQ (u p) (q p).toNat + 1) (e : ∀ k : Int, q2 k = if k = p then v else q k) : hq u q2 N = cv + 1 := by
  obtain ⟨a1, a2⟩ := h
  obtain ⟨j, rfl⟩ := Int.eq_ofNat_of_zero_le h0
  obtain ⟨t, ht⟩ : ∃ t : Nat, N = j + 1 + t := ⟨(N - (j + 1)).toNat, by omega⟩
  rw [show ((j : Int) + 1).toNat = j + 1 by omega, show (N - ((j : Int) + 1)).toNat = t by omega] at a2
  unfold hq
  rw [show N.toNat = j + 1 + t by omega, HH_z (i := j + 1) t (fun k b1 b2 => by show rkQ (u k) (q2 k).toNat = 0; rw [e, if_neg (by omega)]; exact (a1 k (by omega) (by omega)).2), ← a2]
  have h2 : HH (fun k => rkQ (u k) (q2 k).toNat) u (j + 1) = HH (fun k => rkQ (u k) (q k).toNat) u (j + 1) + 1 := by
    have h3 : HH (fun k => rkQ (u k) (q2 k).toNat) u j = HH (fun k => rkQ (u k) (q k).toNat) u j := HH_cong j (fun k hk => by show rkQ (u k) (q2 k).toNat = rkQ (u k) (q k).toNat; rw [e, if_neg (by omega)])
    show HH (fun k => rkQ (u k) (q2 k).toNat) u j * cT (u j) + rkQ (u j) (q2 j).toNat = HH (fun k => rkQ (u k) (q k).toNat) u j * cT (u j) + rkQ (u j) (q j).toNat + 1
    rw [h3, e, if_pos rfl, hv]
    omega
  rw [h2, Int.natCast_add]
  rfl
/-- all are at their last -/
theorem DCQ_all {u q : Int → Int} {N cv : Int} (h : DCQ u q N (-1) cv) : cv + 1 = PRD u 0 N.toNat := by
  have h2 := h.2
  rw [show (-1 : Int) + 1 = 0 by decide, show (N - 0).toNat = N.toNat by omega] at h2
  have h3 : (HH (fun k => rkQ (u k) (q k).toNat) u (0 : Int).toNat + 1) = 1 := rfl
  rw [h3, Int.one_mul] at h2
  omega
/-! how one is in a WORLD -/
def lyT (ls q day t : Int) : Int := if q = 0 then 0 else if q = 1 then 1 else if q = 2 then t else if q = 3 then 1 - t else if q = 4 then ls / pw day % 2 else 2
/-- e tells of a WORLD with these codes, at these turns -/
def EVQ (N ls : Int) (q : Int → Int) (r day y : Int) (t : Int → Int) (e : Ev) : Prop := (∀ p : Int, 0 ≤ p → p < N → e p = kdQ (q p)) ∧ e 10 = r ∧ e 11 = day ∧ e 12 = y ∧ e 13 = N ∧ (∀ p : Int, 0 ≤ p → p < N → e (20 + p) = lyT ls (q p) day (t p)) ∧ ∀ p : Int, 0 ≤ p → p < N → 0 ≤ q p ∧ q p ≤ 5
/-- the rows that do not change, at a WORLD -/
def STB (M : Mm) (R0 pe ls j : Int) (b : Nat) (q : Int → Int) (r day y : Int) : Prop :=
  (∀ k : Int, 0 ≤ k → k < 5 * pe → tb M (R0 + k) j b = decide (kdQ (q (k / 5)) = k % 5)) ∧
  (∀ k : Int, 35 ≤ k → k < 48 → tb M (R0 + k) j b = if k < 39 then decide (r = k - 35) else if k < 46 then decide (day = k - 39) else decide (y = k - 46)) ∧
  (∀ k c : Int, 0 ≤ k → k ≤ 4 → 0 ≤ c → c ≤ 7 → tb M (R0 + (48 + 8 * k + c)) j b = decide (cnK (fun p => kdQ (q p)) k pe.toNat = c)) ∧
  (∀ p t : Int, 0 ≤ p → p < pe → 0 ≤ t → t ≤ 1 → tb M (R0 + (88 + 2 * p + t)) j b = decide (lyT ls (q p) day t = 0)) ∧
  tb M (R0 + 117) j b = false ∧ tb M (R0 + 118) j b = true
theorem lyT_b {ls q day t : Int} (h0 : 0 ≤ q) (h5 : q ≤ 5) (t0 : 0 ≤ t) (t1 : t ≤ 1) : 0 ≤ lyT ls q day t ∧ lyT ls q day t ≤ 2 ∧ (lyT ls q day t = 2 ↔ q = 5) := by
  unfold lyT
  by_cases q0 : q = 0
  · rw [if_pos q0]; omega
  rw [if_neg q0]
  by_cases q1 : q = 1
  · rw [if_pos q1]; omega
  rw [if_neg q1]
  by_cases q2 : q = 2
  · rw [if_pos q2]; omega
  rw [if_neg q2]
  by_cases q3 : q = 3
  · rw [if_pos q3]; omega
  rw [if_neg q3]
  by_cases q4 : q = 4
  · rw [if_pos q4]; omega
  · rw [if_neg q4]; omega
/-- the class's rows tell e -/
theorem RS_of {M : Mm} {R0 ta pe ls j r day y : Int} {b : Nat} {q : Int → Int} {e : Ev} (h : STB M R0 pe ls j b q r day y) (he : EVQ pe ls q r day y (fun p => M ta p) e) (hp : pe ≤ 7) (ht : ∀ p : Int, 0 ≤ p → p < 7 → 0 ≤ M ta p ∧ M ta p ≤ 1) (h30 : ∀ k : Int, 0 ≤ k → k ≤ 14 → tb M (R0 + (102 + k)) j b = decide (e (30 + k) = 1)) : RSb M R0 ta pe j b e := by
  obtain ⟨s1, s2, s3, s4, s5, s6⟩ := h
  obtain ⟨e1, e2, e3, e4, e5, e6, e7⟩ := he
  refine ⟨fun k k0 k1 => ?_, fun k k0 k1 => ?_, fun k k0 k1 => ?_, fun k c k0 k4 c0 c7 => ?_, fun p p0 p1 => ?_⟩
  · rw [s1 k k0 k1, e1 (k / 5) (by omega) (by omega)]
  · rw [s2 k k0 k1]
    unfold rwv
    rw [if_neg (by omega : ¬ k < 35)]
    by_cases a : k < 39
    · rw [if_pos a, if_pos a, e2]
    · rw [if_neg a, if_neg a]
      by_cases a2 : k < 46
      · rw [if_pos a2, if_pos a2, e3]
      · rw [if_neg a2, if_neg a2, if_pos k1, e4]
  · unfold rwv
    rw [if_neg (by omega : ¬ k < 35), if_neg (by omega : ¬ k < 39), if_neg (by omega : ¬ k < 46), if_neg (by omega : ¬ k < 48)]
    by_cases a : k < 117
    · rw [if_pos a]
      have := h30 (k - 102) (by omega) (by omega)
      rw [show 102 + (k - 102) = k by omega] at this
      exact this
    · rw [if_neg a]
      by_cases a2 : k = 117
      · rw [a2, s5]; rfl
      · rw [show k = 118 by omega, s6]; rfl
  · rw [s3 k c k0 k4 c0 c7]
    unfold cnt
    rw [e5]
    have : cnK (fun p => kdQ (q p)) k pe.toNat = cnK e k pe.toNat := cnK_cg _ fun p hp2 => (e1 p (by omega) (by omega)).symm
    rw [this]
  · have h7 := e7 p p0 p1
    have hk := kdQ_b h7.1 h7.2
    have htp := ht p p0 (by omega)
    have hl := lyT_b (ls := ls) (day := day) h7.1 h7.2 htp.1 htp.2
    have e6' : e (20 + p) = lyT ls (q p) day (M ta p) := e6 p p0 p1
    rw [e1 p p0 p1, e6']
    refine ⟨hk.1, hk.2, ?_, hl.1, hl.2.1, fun _ => s4 p (M ta p) p0 p1 htp.1 htp.2⟩
    rw [hl.2.2]
    unfold kdQ
    split <;> omega
/-- e tells of WORLD i, ahead of all EVENTS -/
def EVI (N : Int) (u : Int → Int) (R D W eD ls i : Int) (e : Ev) : Prop := ∃ q r d y, IDX N u R D W i q r d y ∧ EVQ N ls q r (eD + d) y (fun _ => 0) e ∧ ∀ k : Int, 0 ≤ k → e (30 + k) ≠ 1
/-! the class's steps from WORLD to WORLD -/
theorem NBQ_u {m z : Int} (h : (z = 0 ∧ m % 2 = 1) ∨ (z = 1 ∧ m % 2 ≠ 1 ∧ m / 2 % 2 = 1) ∨ (z = 2 ∧ m % 2 ≠ 1 ∧ m / 2 % 2 ≠ 1 ∧ m / 4 % 2 = 1) ∨ (z = 4 ∧ m % 2 ≠ 1 ∧ m / 2 % 2 ≠ 1 ∧ m / 4 % 2 ≠ 1 ∧ m / 8 % 2 = 1) ∨ (z = 5 ∧ m % 2 ≠ 1 ∧ m / 2 % 2 ≠ 1 ∧ m / 4 % 2 ≠ 1 ∧ m / 8 % 2 ≠ 1 ∧ m / 16 % 2 = 1)) : NBQ m (-1) z := by
  have e0 : m / pw (kdQ 0) % 2 = m % 2 := by rw [show pw (kdQ 0) = 1 by decide, Int.ediv_one]
  have e1 : m / pw (kdQ 1) % 2 = m / 2 % 2 := by rw [show pw (kdQ 1) = 2 by decide]
  have e2 : m / pw (kdQ 2) % 2 = m / 4 % 2 := by rw [show pw (kdQ 2) = 4 by decide]
  have e3 : m / pw (kdQ 3) % 2 = m / 4 % 2 := by rw [show pw (kdQ 3) = 4 by decide]
  have e4 : m / pw (kdQ 4) % 2 = m / 8 % 2 := by rw [show pw (kdQ 4) = 8 by decide]
  have e5 : m / pw (kdQ 5) % 2 = m / 16 % 2 := by rw [show pw (kdQ 5) = 16 by decide]
  have key : ∀ q : Int, -1 < q → q < z → z ≤ 5 → (q = 0 ∧ 0 < z) ∨ (q = 1 ∧ 1 < z) ∨ (q = 2 ∧ 2 < z) ∨ (q = 3 ∧ 3 < z) ∨ (q = 4 ∧ 4 < z) := fun q a b c => by omega
  refine Or.inr ⟨by omega, ?_, fun q a b => ?_⟩
  · rcases h with h | h | h | h | h <;> rw [h.1]
    · exact ⟨by decide, by decide, by rw [e0]; exact h.2⟩
    · exact ⟨by decide, by decide, by rw [e1]; exact h.2.2⟩
    · exact ⟨by decide, by decide, by rw [e2]; exact h.2.2.2⟩
    · exact ⟨by decide, by decide, by rw [e4]; exact h.2.2.2.2⟩
    · exact ⟨by decide, by decide, by rw [e5]; exact h.2.2.2.2.2⟩
  · rcases key q a b (by omega) with ⟨rfl, k⟩ | ⟨rfl, k⟩ | ⟨rfl, k⟩ | ⟨rfl, k⟩ | ⟨rfl, k⟩
    · rw [e0]; omega
    · rw [e1]; omega
    · rw [e2]; omega
    · rw [e3]; omega
    · rw [e4]; omega
def WKI (Mp M : Mm) (i : Int) : Prop := IDX (Mp 2 1) (fun k => Mp 3 k) (Mp 2 2) (lD Mp 2 - eD Mp 2 + 1) (lW Mp 2 + 1) i (fun k => M 15 k) (M 14 1) (M 14 2 - eD Mp 2) (M 14 3)
def TOT (Mp : Mm) : Int := PRD (fun k => Mp 3 k) 0 (Mp 2 1).toNat * Mp 2 2 * (lD Mp 2 - eD Mp 2 + 1) * (lW Mp 2 + 1)
/-- a WORLD packed -/
def SC (u : Int → Int) : Nat → Int
  | 0 => 0
  | n + 1 => SC u n + u n * pw (3 * n)
theorem SC_s {u : Int → Int} {k : Int} (h : 0 ≤ k) : SC u (k + 1).toNat = SC u k.toNat + u k * pw (3 * k) := by
  rw [show (k + 1).toNat = k.toNat + 1 by omega]
  show SC u k.toNat + u (k.toNat : Nat) * pw (3 * (k.toNat : Nat)) = _
  rw [show ((k.toNat : Nat) : Int) = k by omega]
theorem SC_b {u : Int → Int} (hu : ∀ k : Int, 0 ≤ k → k < 7 → 0 ≤ u k ∧ u k ≤ 7) : ∀ n : Nat, n ≤ 7 → 0 ≤ SC u n ∧ SC u n < pw (3 * n) := by
  intro n
  induction n with
  | zero => intro _; exact ⟨Int.le_refl _, show (0 : Int) < pw (3 * ((0 : Nat) : Int)) by decide⟩
  | succ n ih =>
    intro h
    obtain ⟨a, b⟩ := ih (by omega)
    have h1 := hu n (by omega) (by omega)
    have e : pw (3 * ((n + 1 : Nat) : Int)) = 8 * pw (3 * (n : Int)) := by
      have : n = 0 ∨ n = 1 ∨ n = 2 ∨ n = 3 ∨ n = 4 ∨ n = 5 ∨ n = 6 := by omega
      rcases this with rfl | rfl | rfl | rfl | rfl | rfl | rfl <;> decide
    have hp := pw_pos (3 * (n : Int))
    have m0 : 0 ≤ u n * pw (3 * (n : Int)) := Int.mul_nonneg h1.1 (by omega)
    have m1 : u n * pw (3 * (n : Int)) ≤ 7 * pw (3 * (n : Int)) := Int.mul_le_mul_of_nonneg_right h1.2 (by omega)
    show 0 ≤ SC u n + u n * pw (3 * (n : Int)) ∧ SC u n + u n * pw (3 * (n : Int)) < _
    rw [e]
    omega
theorem or_mid {H L c : Nat} {a b : Nat} (hL : L < 2 ^ a) (hc : c * 2 ^ a + L < 2 ^ b) : (2 ^ b * H + L) ||| (c * 2 ^ a) = 2 ^ b * H + (c * 2 ^ a + L) := by
  have hL2 : L < 2 ^ b := by
    have : 0 ≤ c * 2 ^ a := Nat.zero_le _
    omega
  rw [Nat.two_pow_add_eq_or_of_lt hL2, Nat.two_pow_add_eq_or_of_lt hc, Nat.or_assoc]
  congr 1
  rw [Nat.mul_comm c, Nat.two_pow_add_eq_or_of_lt hL, Nat.or_comm]
theorem pk_step {u : Int → Int} {x H c v r k : Int} (hu : ∀ k : Int, 0 ≤ k → k < 7 → 0 ≤ u k ∧ u k ≤ 7) (hH : 0 ≤ H) (h : x = 2097152 * H + SC u k.toNat) (h0 : 0 ≤ k) (h1 : k < 7) (hv : v = c * pw (3 * k)) (hc : u k = c) (hr : r = ((x.toNat ||| v.toNat : Nat) : Int)) : r = 2097152 * H + SC u (k + 1).toNat := by
  have hb := SC_b hu k.toNat (by omega)
  have hb2 := SC_b hu (k + 1).toNat (by omega)
  rw [SC_s h0] at hb2 ⊢
  have hcb := hu k h0 h1
  have e : pw (3 * k) = ((2 ^ (3 * k).toNat : Nat) : Int) := by
    have : k = 0 ∨ k = 1 ∨ k = 2 ∨ k = 3 ∨ k = 4 ∨ k = 5 ∨ k = 6 := by omega
    rcases this with rfl | rfl | rfl | rfl | rfl | rfl | rfl <;> decide
  have e3 : pw (3 * ((k.toNat : Nat) : Int)) = pw (3 * k) := by rw [show ((k.toNat : Nat) : Int) = k by omega]
  have e4 : pw (3 * (((k + 1).toNat : Nat) : Int)) ≤ 2097152 := by
    have : k = 0 ∨ k = 1 ∨ k = 2 ∨ k = 3 ∨ k = 4 ∨ k = 5 ∨ k = 6 := by omega
    rcases this with rfl | rfl | rfl | rfl | rfl | rfl | rfl <;> decide
  rw [e3, e] at hb
  rw [hc, e] at hb2
  rw [e] at hv
  rw [hc, e]
  obtain ⟨H', rfl⟩ := Int.eq_ofNat_of_zero_le hH
  obtain ⟨L', hL'⟩ := Int.eq_ofNat_of_zero_le hb.1
  obtain ⟨c', hc'⟩ := Int.eq_ofNat_of_zero_le (show 0 ≤ c by omega)
  rw [hL', hc'] at hb2 ⊢
  rw [hL'] at hb h
  rw [hc'] at hv
  have hx : x.toNat = 2 ^ 21 * H' + L' := by
    have : (2 : Nat) ^ 21 = 2097152 := by decide
    rw [this]
    omega
  have hv2 : v.toNat = c' * 2 ^ (3 * k).toNat := by
    rw [hv, ← Int.natCast_mul, Int.toNat_natCast]
  have hlt : c' * 2 ^ (3 * k).toNat + L' < 2 ^ 21 := by
    have h2 := hb2.2
    rw [← Int.natCast_mul] at h2
    have : (2 : Nat) ^ 21 = 2097152 := by decide
    rw [this]
    omega
  rw [hr, hx, hv2, or_mid (by omega) hlt]
  rw [← Int.natCast_mul]
  have : (2 : Nat) ^ 21 = 2097152 := by decide
  rw [this]
  omega
theorem SC_7 (u : Int → Int) : SC u 7 = u 0 + 8 * u 1 + 64 * u 2 + 512 * u 3 + 4096 * u 4 + 32768 * u 5 + 262144 * u 6 := by
  show 0 + u (0 : Nat) * pw (3 * (0 : Nat)) + u (1 : Nat) * pw (3 * (1 : Nat)) + u (2 : Nat) * pw (3 * (2 : Nat)) + u (3 : Nat) * pw (3 * (3 : Nat)) + u (4 : Nat) * pw (3 * (4 : Nat)) + u (5 : Nat) * pw (3 * (5 : Nat)) + u (6 : Nat) * pw (3 * (6 : Nat)) = _
  rw [show pw (3 * ((0 : Nat) : Int)) = 1 by decide, show pw (3 * ((1 : Nat) : Int)) = 8 by decide, show pw (3 * ((2 : Nat) : Int)) = 64 by decide, show pw (3 * ((3 : Nat) : Int)) = 512 by decide, show pw (3 * ((4 : Nat) : Int)) = 4096 by decide, show pw (3 * ((5 : Nat) : Int)) = 32768 by decide, show pw (3 * ((6 : Nat) : Int)) = 262144 by decide]
  show 0 + u 0 * 1 + u 1 * 8 + u 2 * 64 + u 3 * 512 + u 4 * 4096 + u 5 * 32768 + u 6 * 262144 = _
  omega
theorem pk_at {u : Int → Int} {x H : Int} (hu : ∀ k : Int, 0 ≤ k → k < 7 → 0 ≤ u k ∧ u k ≤ 7) (h : x = 2097152 * H + SC u 7) : (∀ p : Int, 0 ≤ p → p < 7 → x / pw (3 * p) % 8 = u p) ∧ x / 2097152 = H := by
  rw [SC_7] at h
  have h0 := hu 0 (by decide) (by decide)
  have h1 := hu 1 (by decide) (by decide)
  have h2 := hu 2 (by decide) (by decide)
  have h3 := hu 3 (by decide) (by decide)
  have h4 := hu 4 (by decide) (by decide)
  have h5 := hu 5 (by decide) (by decide)
  have h6 := hu 6 (by decide) (by decide)
  refine ⟨fun p a b => ?_, by omega⟩
  have : p = 0 ∨ p = 1 ∨ p = 2 ∨ p = 3 ∨ p = 4 ∨ p = 5 ∨ p = 6 := by omega
  rcases this with rfl | rfl | rfl | rfl | rfl | rfl | rfl
  · rw [show pw (3 * 0) = 1 by decide]; omega
  · rw [show pw (3 * 1) = 8 by decide]; omega
  · rw [show pw (3 * 2) = 64 by decide]; omega
  · rw [show pw (3 * 3) = 512 by decide]; omega
  · rw [show pw (3 * 4) = 4096 by decide]; omega
  · rw [show pw (3 * 5) = 32768 by decide]; omega
  · rw [show pw (3 * 6) = 262144 by decide]; omega
/-- the number of its row of KINDS -/
def krK (m : Int) : Nat → Int
  | 0 => 0
  | n + 1 => krK m n + m / pw n % 2
def HK (u q : Int → Int) : Nat → Int
  | 0 => 0
  | n + 1 => HK u q n * bT (u n) + krK (u n) (kdQ (q n)).toNat
theorem HK_s {u q : Int → Int} {k : Int} (h : 0 ≤ k) : HK u q (k + 1).toNat = HK u q k.toNat * bT (u k) + krK (u k) (kdQ (q k)).toNat := by
  rw [show (k + 1).toNat = k.toNat + 1 by omega]
  show HK u q k.toNat * bT (u (k.toNat : Nat)) + krK (u (k.toNat : Nat)) (kdQ (q (k.toNat : Nat))).toNat = _
  rw [show ((k.toNat : Nat) : Int) = k by omega]
theorem kr_all : (List.range 32).all (fun m => (List.range 5).all fun k => decide (bcF_g (((m &&& (2 ^ k - 1) : Nat)) : Int) = krK (m : Int) k)) = true := by decide +kernel
theorem bt_all : (List.range 32).all (fun m => decide (bcF_g (m : Int) = bT (m : Int))) = true := by decide +kernel
theorem bc_bT {m : Int} (h0 : 0 ≤ m) (h1 : m ≤ 31) : bcF m = bT m := by
  have := of_decide_eq_true (List.all_eq_true.mp bt_all m.toNat (List.mem_range.mpr (by omega)))
  rw [show ((m.toNat : Nat) : Int) = m by omega] at this
  rw [bcF_eq]
  exact this
theorem bc_kr {m k p a : Int} (h0 : 0 ≤ m) (h1 : m ≤ 31) (k0 : 0 ≤ k) (k4 : k ≤ 4) (hp : p = pw k) (ha : a = ((m.toNat &&& (p - 1).toNat : Nat) : Int)) : bcF a = krK m k.toNat := by
  have := of_decide_eq_true (List.all_eq_true.mp (List.all_eq_true.mp kr_all m.toNat (List.mem_range.mpr (by omega))) k.toNat (List.mem_range.mpr (by omega)))
  rw [show ((m.toNat : Nat) : Int) = m by omega] at this
  have e : (p - 1).toNat = 2 ^ k.toNat - 1 := by
    rw [hp, pw5 k0 k4]
    omega
  rw [bcF_eq, ha, ← this, e]
theorem HK_cg {u q q2 : Int → Int} : ∀ n : Nat, (∀ k : Nat, k < n → kdQ (q k) = kdQ (q2 k)) → HK u q n = HK u q2 n := by
  intro n
  induction n with
  | zero => intro _; rfl
  | succ n ih =>
    intro h
    show HK u q n * bT (u n) + krK (u n) (kdQ (q n)).toNat = HK u q2 n * bT (u n) + krK (u n) (kdQ (q2 n)).toNat
    rw [ih (fun k hk => h k (by omega)), h n (by omega)]
theorem lDW (M : Mm) : 0 ≤ lD M 2 - eD M 2 ∧ 0 ≤ lW M 2 := by
  unfold lD lW
  refine ⟨?_, ?_⟩
  · by_cases h : M 2 3 = -1 ∧ M 2 5 ≠ 0
    · have e : eD M 2 = 0 := by unfold eD; rw [if_pos h.1]
      rw [if_pos h, e]
      decide
    · rw [if_neg h, Int.sub_self]
      exact Int.le_refl _
  · split <;> omega
theorem wb_0 {N R D W d e : Int} {u q : Int → Int} (hR : 1 ≤ R) (hD : 0 ≤ D) (hW : 0 ≤ W) (h : ∀ p : Int, 0 ≤ p → p < N → alQ (u p) (q p) ∧ rkQ (u p) (q p).toNat = 0) (hz : ∀ p : Int, N ≤ p → p < 7 → q p = 0) (hd : d = e) : IDX N u R (D + 1) (W + 1) 0 q 0 (d - e) 0 := by
  refine ⟨fun p a b => (h p a b).1, hz, Int.le_refl _, by omega, by omega, by omega, Int.le_refl _, by omega, ?_⟩
  have e0 : hq u q N = 0 := by
    have h1 := HH_z (u := fun p => rkQ (u p) (q p).toNat) (m := u) (i := 0) N.toNat (fun j _ hj => (h j (by omega) (by omega)).2)
    rw [Nat.zero_add] at h1
    unfold hq
    rw [h1]
    exact Int.zero_mul _
  rw [e0, hd, Int.sub_self, Int.zero_mul, Int.zero_add, Int.zero_mul, Int.zero_add, Int.zero_mul, Int.zero_add]
theorem WK_fr {Mp Mp2 M : Mm} {i : Int} (h2 : ∀ k : Int, 0 ≤ k → k < 7 → Mp2 2 k = Mp 2 k) (h3 : ∀ k : Int, Mp2 3 k = Mp 3 k) : WKI Mp2 M i = WKI Mp M i := by
  unfold WKI lD lW eD
  rw [h2 1 (by decide) (by decide), h2 2 (by decide) (by decide), h2 3 (by decide) (by decide), h2 5 (by decide) (by decide), h2 6 (by decide) (by decide), show (fun k => Mp2 3 k) = (fun k => Mp 3 k) from funext h3]
theorem TOT_fr {Mp Mp2 : Mm} (h2 : ∀ k : Int, 0 ≤ k → k < 7 → Mp2 2 k = Mp 2 k) (h3 : ∀ k : Int, Mp2 3 k = Mp 3 k) : TOT Mp2 = TOT Mp := by
  unfold TOT lD lW eD
  rw [h2 1 (by decide) (by decide), h2 2 (by decide) (by decide), h2 3 (by decide) (by decide), h2 5 (by decide) (by decide), h2 6 (by decide) (by decide), show (fun k => Mp2 3 k) = (fun k => Mp 3 k) from funext h3]
/-- what stepPeople does -/
def SPP (u q q2 : Int → Int) (N : Int) : Prop := ((∀ p : Int, 0 ≤ p → p < N → alQ (u p) (q2 p)) ∧ hq u q2 N = hq u q N + 1) ∨ hq u q N + 1 = PRD u 0 N.toNat
section STPs
variable {Mp M M2 : Mm} {i : Int}
theorem WK_y (h : WKI Mp M i) (hy : M 14 3 < lW Mp 2) (h1 : M2 14 1 = M 14 1) (h2 : M2 14 2 = M 14 2) (h3 : M2 14 3 = M 14 3 + 1) (h15 : ∀ k : Int, M2 15 k = M 15 k) : WKI Mp M2 (i + 1) := by
  unfold WKI at h ⊢
  rw [show (fun k => M2 15 k) = (fun k => M 15 k) from funext h15, h1, h2, h3]
  exact IDX_y h (by omega) rfl
theorem WK_d (h : WKI Mp M i) (hy : lW Mp 2 ≤ M 14 3) (hd : M 14 2 < lD Mp 2) (h1 : M2 14 1 = M 14 1) (h2 : M2 14 2 = M 14 2 + 1) (h3 : M2 14 3 = 0) (h15 : ∀ k : Int, M2 15 k = M 15 k) : WKI Mp M2 (i + 1) := by
  unfold WKI at h ⊢
  have b := h.2.2.2.2.2.2.2.1
  rw [show (fun k => M2 15 k) = (fun k => M 15 k) from funext h15, h1, h2, h3]
  exact IDX_d h (by omega) (by omega) (by omega) rfl
theorem WK_r (h : WKI Mp M i) (hy : lW Mp 2 ≤ M 14 3) (hd : lD Mp 2 ≤ M 14 2) (hr : M 14 1 + 1 < Mp 2 2) (h1 : M2 14 1 = M 14 1 + 1) (h2 : M2 14 2 = eD Mp 2) (h3 : M2 14 3 = 0) (h15 : ∀ k : Int, M2 15 k = M 15 k) : WKI Mp M2 (i + 1) := by
  unfold WKI at h ⊢
  have b := h.2.2.2.2.2.2.2.1
  have b2 := h.2.2.2.2.2.1
  rw [show (fun k => M2 15 k) = (fun k => M 15 k) from funext h15, h1, h2, h3, Int.sub_self]
  exact IDX_r h (by omega) (by omega) (by omega) rfl rfl rfl
theorem WK_p (h : WKI Mp M i) (hlt : i + 1 < TOT Mp) (hy : lW Mp 2 ≤ M 14 3) (hd : lD Mp 2 ≤ M 14 2) (hr : Mp 2 2 ≤ M 14 1 + 1) (h1 : M2 14 1 = 0) (h2 : M2 14 2 = eD Mp 2) (h3 : M2 14 3 = 0) (hs : SPP (fun k => Mp 3 k) (fun k => M 15 k) (fun k => M2 15 k) (Mp 2 1)) (hz : ∀ k : Int, Mp 2 1 ≤ k → k < 7 → M2 15 k = M 15 k) : WKI Mp M2 (i + 1) := by
  unfold WKI at h ⊢
  have a := h.2.1
  have b := h.2.2.2.2.2.2.2.1
  have b2 := h.2.2.2.2.2.1
  have b3 := h.2.2.2.1
  rw [h1, h2, h3, Int.sub_self]
  rcases hs with ⟨s1, s2⟩ | s2
  · exact IDX_p h (by omega) (by omega) (by omega) s2 s1 (fun p p0 p7 => (hz p p0 p7).trans (a p p0 p7)) rfl rfl rfl
  · exfalso
    have := IDX_last h (by omega) (by omega) (by omega) s2
    unfold TOT at hlt
    omega
end STPs
theorem tb_sh {r : Nat} {k : Int} {b : Nat} (e : r = (1 * 2 ^ k.toNat) % 18446744073709551616) (hb : b < 64) (hk : 0 ≤ k ∧ k ≤ 63) : Nat.testBit r b = decide ((b : Int) = k) := by
  rw [e, tbm hb, Nat.one_mul, Nat.testBit_two_pow]
  exact decide_eq_decide.mpr ⟨fun x => by omega, fun x => by omega⟩
/-! one WORLD's bits -/
def BU (M0 M : Mm) (R0 i : Int) (P : Int → Prop) : Prop := ∀ (r j : Int) (b : Nat), 0 ≤ r → r ≤ 118 → b < 64 → (tb M (R0 + r) j b = true ↔ tb M0 (R0 + r) j b = true ∨ (P r ∧ j = i / 64 ∧ (b : Int) = i % 64))
theorem BU_rf (M : Mm) (R0 i : Int) : BU M M R0 i (fun _ => False) := fun r j b _ _ _ => ⟨Or.inl, fun h => h.elim id (fun x => x.1.elim)⟩
theorem BU_set {M0 M : Mm} {R0 i p : Int} (h : ∀ (a j : Int) (b : Nat), b < 64 → tb M a j b = (tb M0 a j b || decide (a = R0 + p ∧ j = i / 64 ∧ (b : Int) = i % 64))) : BU M0 M R0 i (fun r => r = p) := fun r j b _ _ hb => by
  rw [h (R0 + r) j b hb, Bool.or_eq_true, decide_eq_true_iff]
  exact ⟨fun x => x.elim Or.inl (fun y => Or.inr ⟨by omega, y.2⟩), fun x => x.elim Or.inl (fun y => Or.inr ⟨by rw [y.1], y.2⟩)⟩
theorem BU_tr {M0 M1 M2 : Mm} {R0 i : Int} {P Q : Int → Prop} (h : BU M0 M1 R0 i P) (h2 : BU M1 M2 R0 i Q) : BU M0 M2 R0 i (fun r => P r ∨ Q r) := fun r j b r0 r1 hb => by
  rw [h2 r j b r0 r1 hb, h r j b r0 r1 hb]
  constructor
  · rintro ((a | a) | a)
    · exact Or.inl a
    · exact Or.inr ⟨Or.inl a.1, a.2⟩
    · exact Or.inr ⟨Or.inr a.1, a.2⟩
  · rintro (a | ⟨a | a, c⟩)
    · exact Or.inl (Or.inl a)
    · exact Or.inl (Or.inr ⟨a, c⟩)
    · exact Or.inr ⟨a, c⟩
theorem BU_cg {M0 M : Mm} {R0 i : Int} {P Q : Int → Prop} (h : BU M0 M R0 i P) (e : ∀ r, 0 ≤ r → r ≤ 118 → (P r ↔ Q r)) : BU M0 M R0 i Q := fun r j b r0 r1 hb => by rw [h r j b r0 r1 hb, e r r0 r1]
theorem BU_fr {M0 M1 M : Mm} {R0 i : Int} {P : Int → Prop} (h : BU M0 M1 R0 i P) (e : ∀ r j : Int, 0 ≤ r → r ≤ 118 → M (R0 + r) j = M1 (R0 + r) j) : BU M0 M R0 i P := fun r j b r0 r1 hb => by rw [tb_eq (e r j r0 r1)]; exact h r j b r0 r1 hb
theorem BU_f0 {M0 M1 M : Mm} {R0 i : Int} {P : Int → Prop} (h : BU M1 M R0 i P) (e : ∀ r j : Int, 0 ≤ r → r ≤ 118 → M1 (R0 + r) j = M0 (R0 + r) j) : BU M0 M R0 i P := fun r j b r0 r1 hb => by rw [h r j b r0 r1 hb, tb_eq (e r j r0 r1)]
def kdC (c : Int) : Int := if c < 6 then kdQ c else 4
theorem kdC_b {c : Int} (h : 0 ≤ c) : 0 ≤ kdC c ∧ kdC c ≤ 4 := by
  unfold kdC
  split
  · exact kdQ_b h (by omega)
  · exact ⟨by decide, by decide⟩
theorem kdC_Q {c : Int} (h : c ≤ 5) : kdC c = kdQ c := if_pos (by omega)
def prX (c day ls p r : Int) : Prop := r = 5 * p + kdC c ∨ (r = 88 + 2 * p ∧ lyT ls c day 0 = 0) ∨ (r = 88 + 2 * p + 1 ∧ lyT ls c day 1 = 0)
def cdX (x p : Int) : Int := x / pw (3 * p) % 8
theorem cdX_b (x p : Int) : 0 ≤ cdX x p ∧ cdX x p ≤ 7 := by unfold cdX; omega
def dyX (x : Int) : Int := x / 8388608 % 8
def rdX (x : Int) : Int := x / 2097152 % 4
def wdX (x : Int) : Int := x / 67108864 % 2
def cnX (x k : Int) (n : Nat) : Int := cnK (fun p => kdC (cdX x p)) k n
def plX (x pe ls r : Int) : Prop := (∃ p : Int, 0 ≤ p ∧ p < pe ∧ prX (cdX x p) (dyX x) ls p r) ∨ (∃ k : Int, 0 ≤ k ∧ k ≤ 4 ∧ r = 48 + 8 * k + cnX x k pe.toNat) ∨ r = 35 + rdX x ∨ r = 39 + dyX x ∨ r = 46 + wdX x ∨ r = 118
theorem ly_hon {c day t ls : Int} (c0 : 0 ≤ c) (c7 : c ≤ 7) (t0 : 0 ≤ t) (t1 : t ≤ 1) : (lyT ls c day t = 0 ↔ kdC c = 0 ∨ (kdC c = 2 ∧ (c = 3 ↔ t = 1)) ∨ (kdC c = 3 ∧ ls / pw day % 2 = 0)) := by
  have : c = 0 ∨ c = 1 ∨ c = 2 ∨ c = 3 ∨ c = 4 ∨ c = 5 ∨ c = 6 ∨ c = 7 := by omega
  rcases this with rfl | rfl | rfl | rfl | rfl | rfl | rfl | rfl
  · exact ⟨fun _ => Or.inl rfl, fun _ => rfl⟩
  · have e : kdC 1 = 1 := rfl
    have e2 : lyT ls 1 day t = 1 := rfl
    rw [e, e2]
    omega
  · have e : kdC 2 = 2 := rfl
    have e2 : lyT ls 2 day t = t := rfl
    rw [e, e2]
    omega
  · have e : kdC 3 = 2 := rfl
    have e2 : lyT ls 3 day t = 1 - t := rfl
    rw [e, e2]
    omega
  · have e : kdC 4 = 3 := rfl
    have e2 : lyT ls 4 day t = ls / pw day % 2 := rfl
    rw [e, e2]
    omega
  · have e : kdC 5 = 4 := rfl
    have e2 : lyT ls 5 day t = 2 := rfl
    rw [e, e2]
    omega
  · have e : kdC 6 = 4 := rfl
    have e2 : lyT ls 6 day t = 2 := rfl
    rw [e, e2]
    omega
  · have e : kdC 7 = 4 := rfl
    have e2 : lyT ls 7 day t = 2 := rfl
    rw [e, e2]
    omega
theorem ex_s {P : Int → Prop} {l : Int} (h : 0 ≤ l) : ((∃ p : Int, 0 ≤ p ∧ p < l ∧ P p) ∨ P l ↔ ∃ p : Int, 0 ≤ p ∧ p < l + 1 ∧ P p) := by
  constructor
  · rintro (⟨p, a, b, c⟩ | c)
    · exact ⟨p, a, by omega, c⟩
    · exact ⟨l, h, by omega, c⟩
  · rintro ⟨p, a, b, c⟩
    by_cases q : p = l
    · exact Or.inr (q ▸ c)
    · exact Or.inl ⟨p, a, by omega, c⟩
theorem ex_0 {P : Int → Prop} : (False ↔ ∃ p : Int, 0 ≤ p ∧ p < 0 ∧ P p) := ⟨False.elim, fun ⟨_, a, b, _⟩ => by omega⟩
theorem cnX_s {x k l : Int} (h : 0 ≤ l) : cnX x k (l + 1).toNat = cnX x k l.toNat + (if k = kdC (cdX x l) then 1 else 0) := by
  unfold cnX
  rw [cnK_s h]
  by_cases q : k = kdC (cdX x l)
  · rw [if_pos q, if_pos q.symm]
  · rw [if_neg q, if_neg (fun e => q e.symm)]
def PKx (M0 M : Mm) (P K n x y : Int) : Prop := M P n = x ∧ M K n = y ∧ ∀ i : Int, i ≠ n → M P i = M0 P i ∧ M K i = M0 K i
theorem PKx_fr {M0 M M2 : Mm} {P K n x y : Int} (h : PKx M0 M P K n x y) (e1 : ∀ i, M2 P i = M P i) (e2 : ∀ i, M2 K i = M K i) : PKx M0 M2 P K n x y := ⟨(e1 n).trans h.1, (e2 n).trans h.2.1, fun i q => ⟨(e1 i).trans (h.2.2 i q).1, (e2 i).trans (h.2.2 i q).2⟩⟩
theorem PKx_mk {M0 M1 M2 : Mm} {P K n x y : Int} (e1 : M1 = mUp M0 P n x) (e2 : M2 = mUp M1 K n y) (h : P ≠ K) : PKx M0 M2 P K n x y := by
  refine ⟨?_, ?_, fun i q => ⟨?_, ?_⟩⟩
  · rw [e2, mUp_ne (Or.inl h), e1, mUp_eq]
  · rw [e2, mUp_eq]
  · rw [e2, mUp_ne (Or.inl h), e1, mUp_ne (Or.inr q)]
  · rw [e2, mUp_ne (Or.inr q), e1, mUp_ne (Or.inl (fun x => h x.symm))]
/-- all bits of the rows: each WORLD's -/
def RWS (M : Mm) (R0 P pe ls n : Int) : Prop := ∀ (r j : Int) (b : Nat), 0 ≤ r → r ≤ 118 → b < 64 → (tb M (R0 + r) j b = true ↔ ∃ i : Int, 0 ≤ i ∧ i < n ∧ plX (M P i) pe ls r ∧ j = i / 64 ∧ (b : Int) = i % 64)
theorem RWS_0 {M : Mm} {R0 P pe ls n : Int} (h : ∀ r j : Int, 0 ≤ r → r ≤ 118 → M (R0 + r) j = 0) (hn : n ≤ 0) : RWS M R0 P pe ls n := fun r j b r0 r1 _ => by
  unfold tb
  rw [h r j r0 r1]
  constructor
  · intro x
    rw [show (0 : Int).toNat = 0 from rfl, Nat.zero_testBit] at x
    exact absurd x Bool.false_ne_true
  · rintro ⟨i, a, b, -⟩
    omega
theorem RWS_st {M M2 : Mm} {R0 P K pe ls n m x y : Int} (h : RWS M R0 P pe ls n) (hB : BU M M2 R0 m (plX x pe ls)) (hK : PKx M M2 P K m x y) (hm : m = n) (h0 : 0 ≤ n) : RWS M2 R0 P pe ls (n + 1) := fun r j b r0 r1 hb => by
  subst hm
  rw [hB r j b r0 r1 hb, h r j b r0 r1 hb]
  constructor
  · rintro (⟨i, a, b, c, d⟩ | ⟨a, d⟩)
    · exact ⟨i, a, by omega, by rw [(hK.2.2 i (by omega)).1]; exact c, d⟩
    · exact ⟨m, h0, by omega, by rw [hK.1]; exact a, d⟩
  · rintro ⟨i, a, b, c, d⟩
    by_cases q : i = m
    · rw [q, hK.1] at c
      rw [q] at d
      exact Or.inr ⟨c, d⟩
    · rw [(hK.2.2 i q).1] at c
      exact Or.inl ⟨i, a, by omega, c, d⟩
theorem RWS_fr {M M2 : Mm} {R0 P pe ls n : Int} (h : RWS M R0 P pe ls n) (e : ∀ r j : Int, 0 ≤ r → r ≤ 118 → M2 (R0 + r) j = M (R0 + r) j) (eP : ∀ i : Int, M2 P i = M P i) : RWS M2 R0 P pe ls n := fun r j b r0 r1 hb => by
  rw [tb_eq (e r j r0 r1), h r j b r0 r1 hb]
  constructor
  · rintro ⟨i, a, b, c, d⟩
    exact ⟨i, a, b, by rw [eP]; exact c, d⟩
  · rintro ⟨i, a, b, c, d⟩
    rw [eP] at c
    exact ⟨i, a, b, c, d⟩
/-- WORLD i of the plan at Mp as it is packed -/
def WKP (Mp : Mm) (x k i : Int) : Prop := IDX (Mp 2 1) (fun k => Mp 3 k) (Mp 2 2) (lD Mp 2 - eD Mp 2 + 1) (lW Mp 2 + 1) i (cdX x) (rdX x) (dyX x - eD Mp 2) (wdX x) ∧ k = HK (fun k => Mp 3 k) (cdX x) (Mp 2 1).toNat
theorem WKP_mk {Mp M : Mm} {x k i a b c : Int} (h : WKI Mp M i) (hN : 0 ≤ Mp 2 1 ∧ Mp 2 1 ≤ 7) (hx : (∀ p : Int, 0 ≤ p → p < 7 → x / pw (3 * p) % 8 = M 15 p) ∧ x / 2097152 % 4 = a ∧ x / 8388608 % 8 = b ∧ x / 67108864 % 2 = c) (ea : M 14 1 = a) (eb : M 14 2 = b) (ec : M 14 3 = c) (hk : k = HK (fun k => Mp 3 k) (fun k => M 15 k) (Mp 2 1).toNat) : WKP Mp x k i := by
  obtain ⟨h1, h2, h3, h4⟩ := hx
  refine ⟨IDX_cg h hN.1 (fun p p0 p7 => h1 p p0 p7) hN.2 (h2.trans ea.symm) (by show dyX x - _ = _; unfold dyX; rw [h3, eb]) (h4.trans ec.symm), ?_⟩
  rw [hk]
  exact HK_cg _ fun j hj => by show kdQ (M 15 j) = kdQ (cdX x j); rw [show cdX x j = M 15 j from h1 j (by omega) (by omega)]
theorem WKP_st {Mp M M2 : Mm} {P K n m x y : Int} (h : ∀ i : Int, 0 ≤ i → i < n → WKP Mp (M P i) (M K i) i) (hK : PKx M M2 P K m x y) (hm : m = n) (hn : WKP Mp x y n) : ∀ i : Int, 0 ≤ i → i < n + 1 → WKP Mp (M2 P i) (M2 K i) i := fun i a b => by
  subst hm
  by_cases q : i = m
  · rw [q, hK.1, hK.2.1]
    exact hn
  · rw [(hK.2.2 i q).1, (hK.2.2 i q).2]
    exact h i a (by omega)
theorem WK_m {Mp M M2 : Mm} {i : Int} (h : WKI Mp M i) (h15 : ∀ k : Int, M2 15 k = M 15 k) (h1 : M2 14 1 = M 14 1) (h2 : M2 14 2 = M 14 2) (h3 : M2 14 3 = M 14 3) : WKI Mp M2 i := by
  unfold WKI at h ⊢
  rw [show (fun k => M2 15 k) = (fun k => M 15 k) from funext h15, h1, h2, h3]
  exact h
theorem PS_PRD {u : Int → Int} : ∀ n : Nat, (∀ k : Nat, k < n → 0 ≤ u k ∧ u k ≤ 31) → PS u n = PRD u 0 n := by
  intro n
  induction n with
  | zero => intro _; rfl
  | succ n ih =>
    intro h
    show PS u n * (bcF (u n) + u n / 4 % 2) = PRD u 0 n * cT (u (0 + n))
    rw [ih (fun k hk => h k (by omega)), Int.zero_add, bc_cT (h n (by omega))]
theorem TOT_SZ {M : Mm} (hb : ∀ k : Int, 0 ≤ k → k < 7 → 1 ≤ M 3 k ∧ M 3 k ≤ 31) (hN : M 2 1 ≤ 7) : SZk M 2 3 = TOT M := by
  unfold SZk TOT Rf
  rw [PS_PRD _ (fun k hk => by have := hb k (by omega) (by omega); show 0 ≤ M 3 k ∧ M 3 k ≤ 31; omega)]
  rw [Int.mul_comm, Int.mul_assoc, Int.mul_assoc, Int.mul_assoc]
theorem PRD_nn (m : Int → Int) (i : Int) : ∀ n : Nat, 0 ≤ PRD m i n := by
  intro n
  induction n with
  | zero => show (0 : Int) ≤ 1; decide
  | succ n ih =>
    show 0 ≤ PRD m i n * cT (m (i + n))
    exact Int.mul_nonneg ih (by unfold cT; omega)
theorem TOT_nn {M : Mm} (h : 0 ≤ M 2 2) : 0 ≤ TOT M := by
  obtain ⟨a, b⟩ := lDW M
  exact Int.mul_nonneg (Int.mul_nonneg (Int.mul_nonneg (PRD_nn _ _ _) h) (by omega)) (by omega)
theorem WKP_fr {Mp Mp2 : Mm} {x k i : Int} (h2 : ∀ k : Int, 0 ≤ k → k < 7 → Mp2 2 k = Mp 2 k) (h3 : ∀ k : Int, Mp2 3 k = Mp 3 k) : WKP Mp2 x k i = WKP Mp x k i := by
  unfold WKP lD lW eD
  rw [h2 1 (by decide) (by decide), h2 2 (by decide) (by decide), h2 3 (by decide) (by decide), h2 5 (by decide) (by decide), h2 6 (by decide) (by decide), show (fun k => Mp2 3 k) = (fun k => Mp 3 k) from funext h3]
