/-! ===== the model's parser: longs, frames of properties, what is read ===== -/
theorem lnat {x : Int} {n : Nat} (h : x = (n : Int)) : x.toNat = n := by omega
theorem wk_lshl5 {B : eB} {d y pc pc2 : Nat} {L : List (Option eV)} {st : List eV} {M : Mm} {Q : Nat → eV → Mm → Prop} {a b c n : Nat} (hr : Rw y pc pc2 1 46 a b c) (hn : n < 576460752303423488) (hk : ∀ r : Nat, r = n * 32 → Wp B d y pc2 L (J r :: st) M Q) : Wp B d y pc L (I 5 :: J n :: st) M Q :=
  wk_lshlb hr ⟨by decide, by decide⟩ (fun r _ h2 _ => hk r (by
    rw [h2, show (2 : Nat) ^ (5 : Int).toNat = 32 from rfl]
    omega))
theorem wk_lor5 {B : eB} {d y pc pc2 : Nat} {L : List (Option eV)} {st : List eV} {M : Mm} {Q : Nat → eV → Mm → Prop} {a b c n m : Nat} (hr : Rw y pc pc2 1 44 a b c) (hm : m < 32) (hn : n % 32 = 0) (hb : n < 576460752303423488) (hk : ∀ r : Nat, r = n + m → Wp B d y pc2 L (J r :: st) M Q) : Wp B d y pc L (J m :: J n :: st) M Q :=
  wk_lor hr (fun r _ h2 => hk r (by
    have e1 : n = 2 ^ 5 * (n / 32) := by omega
    have e2 : n ||| m = n + m := by
      rw [e1, ← Nat.two_pow_add_eq_or_of_lt (by omega)]
    rw [h2, e2]
    omega))
def btF (M : Mm) (k : Int) : Int := if k < M 739 30 then M 755 k else 0
theorem btF_up {M M2 : Mm} {i z k : Int} (e : M2 = mUp M 739 i z) (hi : 30 ≠ i) : btF M2 k = btF M k := by
  unfold btF
  rw [e, mUp_ne (Or.inr hi), mUp_ne (Or.inl (by decide))]
def Sm (FG : Nat) (M M2 : Mm) : Prop := ∀ a i : Int, Nat.testBit FG (grp a i) = true → M2 a i = M a i
theorem Sm.fr {m FG : Nat} {M M2 : Mm} (h : Fr m M M2) (hm : m &&& FG = 0) : Sm FG M M2 := by
  intro a i hq
  refine h a i ?_
  have h2 : Nat.testBit (m &&& FG) (grp a i) = false := by rw [hm]; exact Nat.zero_testBit _
  rw [Nat.testBit_and, hq, Bool.and_true] at h2
  exact h2
theorem Sm.up {FG g : Nat} {M M2 : Mm} {a i z : Int} (e : M2 = mUp M a i z) (hg : grp a i = g) (hb : Nat.testBit FG g = false) : Sm FG M M2 := by
  intro a' i' hq
  rw [e, mUp_ne]
  by_cases ha : a' = a
  · refine Or.inr (fun hi => ?_)
    subst ha
    subst hi
    rw [hg, hb] at hq
    cases hq
  · exact Or.inl ha
theorem Sm.at {FG k : Nat} {M M2 : Mm} {a i : Int} (h : Sm FG M M2) (hg : grp a i = k) (hb : Nat.testBit FG k = true) : M2 a i = M a i := h a i (by rw [hg]; exact hb)
theorem Sm.row {FG k : Nat} {M M2 : Mm} {a : Int} (h : Sm FG M M2) (hg : ∀ i, grp a i = k) (hb : Nat.testBit FG k = true) : (fun i => M2 a i) = (fun i => M a i) := funext fun i => h.at (hg i) hb
/-! a token: a word is spelled with letters; of a name's word the letters' number is small -/
def TK (M : Mm) : Prop := M 739 32 = 1 → 97 ≤ M 739 36 ∧ (M 739 34 ≤ 1 → M 739 37 ≤ 31)
/-! what is read: signs behind their operands; how many operands a row of them leaves -/
def hgt (u : Int → Int) (s : Int) : Nat → Int
  | 0 => 0
  | n + 1 => if u (s + n) % 16 ≤ 9 then hgt u s n + 1 else if u (s + n) % 16 = 10 ∨ u (s + n) % 16 = 13 then hgt u s n else hgt u s n - 1
def stp (u : Int → Int) (s : Int) (n : Nat) : Prop := 1 ≤ u (s + n) ∧ refok (u (s + n)) ∧ 1 ≤ u (s + n) % 16 ∧ u (s + n) % 16 ≤ 13 ∧ (u (s + n) % 16 = 10 ∨ u (s + n) % 16 = 13 → 1 ≤ hgt u s n) ∧ (u (s + n) % 16 = 11 ∨ u (s + n) % 16 = 12 → 2 ≤ hgt u s n)
def Vd (u : Int → Int) (s e : Int) : Prop := ∀ n : Nat, s + n < e → stp u s n
def bn (u : Int → Int) : Nat → Int
  | 0 => 0
  | n + 1 => bn u n + if u n % 16 = 11 ∨ u n % 16 = 12 then 1 else 0
def on (u : Int → Int) : Nat → Int
  | 0 => 0
  | n + 1 => on u n + if u n % 16 = 14 then 1 else 0
theorem bn_nn (u : Int → Int) : ∀ n, 0 ≤ bn u n := by
  intro n
  induction n with
  | zero => exact Int.le_refl _
  | succ n ih =>
    show 0 ≤ bn u n + if u n % 16 = 11 ∨ u n % 16 = 12 then 1 else 0
    split <;> omega
theorem hgt_cong {u v : Int → Int} {s : Int} : ∀ n : Nat, (∀ k : Nat, k < n → u (s + k) = v (s + k)) → hgt u s n = hgt v s n := by
  intro n
  induction n with
  | zero => intro _; rfl
  | succ n ih =>
    intro h
    show (if u (s + n) % 16 ≤ 9 then hgt u s n + 1 else if u (s + n) % 16 = 10 ∨ u (s + n) % 16 = 13 then hgt u s n else hgt u s n - 1) = (if v (s + n) % 16 ≤ 9 then hgt v s n + 1 else if v (s + n) % 16 = 10 ∨ v (s + n) % 16 = 13 then hgt v s n else hgt v s n - 1)
    rw [ih (fun k hk => h k (by omega)), h n (by omega)]
theorem stp_cong {u v : Int → Int} {s : Int} {n : Nat} (h : ∀ k : Nat, k ≤ n → u (s + k) = v (s + k)) (hs : stp u s n) : stp v s n := by
  have e : hgt u s n = hgt v s n := hgt_cong n (fun k hk => h k (by omega))
  have e2 := h n (Nat.le_refl n)
  unfold stp at hs ⊢
  rw [← e, ← e2]
  exact hs
theorem Vd_cong {u v : Int → Int} {s e : Int} (h : ∀ k : Int, s ≤ k → k < e → u k = v k) (hv : Vd u s e) : Vd v s e := fun n hn => stp_cong (fun k hk => h _ (by omega) (by omega)) (hv n hn)
theorem bn_cong {u v : Int → Int} : ∀ n : Nat, (∀ k : Nat, k < n → u k = v k) → bn u n = bn v n := by
  intro n
  induction n with
  | zero => intro _; rfl
  | succ n ih =>
    intro h
    show bn u n + (if u n % 16 = 11 ∨ u n % 16 = 12 then 1 else 0) = bn v n + (if v n % 16 = 11 ∨ v n % 16 = 12 then 1 else 0)
    rw [ih (fun k hk => h k (by omega)), h n (by omega)]
theorem on_cong {u v : Int → Int} : ∀ n : Nat, (∀ k : Nat, k < n → u k = v k) → on u n = on v n := by
  intro n
  induction n with
  | zero => intro _; rfl
  | succ n ih =>
    intro h
    show on u n + (if u n % 16 = 14 then 1 else 0) = on v n + (if v n % 16 = 14 then 1 else 0)
    rw [ih (fun k hk => h k (by omega)), h n (by omega)]
/-- what stands read and waiting: b operands more than signs that want two, c more open than the depth tells -/
def EU (r w : Int → Int) (T W D s : Int) (u0 : Int → Int) (b c : Int) : Prop := 0 ≤ s ∧ s ≤ T ∧ 0 ≤ W ∧ Vd r s T ∧ hgt r s (T - s).toNat = bn w W.toNat + b ∧ on w W.toNat = D - 1 + c ∧ (∀ k : Int, 0 ≤ k → k < W → 10 ≤ w k % 16 ∧ w k % 16 ≤ 14 ∧ w k % 16 ≠ 13) ∧ ∀ k : Int, k < s → r k = u0 k
theorem EU_put {r r' w : Int → Int} {T W D s : Int} {u0 : Int → Int} {b c b' v : Int} (h : EU r w T W D s u0 b c) (hr : ∀ k, k ≠ T → r' k = r k) (hv : r' T = v) (h1 : 1 ≤ v ∧ refok v ∧ 1 ≤ v % 16 ∧ v % 16 ≤ 13) (h2 : v % 16 = 10 ∨ v % 16 = 13 → 1 ≤ bn w W.toNat + b) (h3 : v % 16 = 11 ∨ v % 16 = 12 → 2 ≤ bn w W.toNat + b) (hb : b' = b + if v % 16 ≤ 9 then 1 else if v % 16 = 10 ∨ v % 16 = 13 then 0 else -1) : EU r' w (T + 1) W D s u0 b' c := by
  obtain ⟨a1, a2, a3, a4, a5, a6, a7, a8⟩ := h
  obtain ⟨n, hn⟩ : ∃ n : Nat, T = s + n := ⟨(T - s).toNat, by omega⟩
  have e0 : (T - s).toNat = n := by omega
  have e1 : (T + 1 - s).toNat = n + 1 := by omega
  have hc : ∀ k : Nat, k < n → r (s + k) = r' (s + k) := fun k hk => (hr _ (by omega)).symm
  have eh : hgt r' s n = bn w W.toNat + b := by rw [← hgt_cong n hc, ← e0]; exact a5
  have hvn : r' (s + n) = v := by rw [← hn]; exact hv
  refine ⟨a1, by omega, a3, ?_, ?_, a6, a7, fun k hk => by rw [hr k (by omega)]; exact a8 k hk⟩
  · intro m hm
    rcases Nat.lt_or_ge m n with q | q
    · exact stp_cong (fun k hk => hc k (by omega)) (a4 m (by omega))
    · have hm2 : m = n := by omega
      subst hm2
      unfold stp
      rw [hvn, eh]
      exact ⟨h1.1, h1.2.1, h1.2.2.1, h1.2.2.2, h2, h3⟩
  · rw [e1]
    show (if r' (s + n) % 16 ≤ 9 then hgt r' s n + 1 else if r' (s + n) % 16 = 10 ∨ r' (s + n) % 16 = 13 then hgt r' s n else hgt r' s n - 1) = bn w W.toNat + b'
    rw [hvn, eh, hb]
    split
    · omega
    · split <;> omega
theorem EU_wait {r w w' : Int → Int} {T W D s : Int} {u0 : Int → Int} {b c b' c' v : Int} (h : EU r w T W D s u0 b c) (hr : ∀ k, k ≠ W → w' k = w k) (hv : w' W = v) (h1 : 10 ≤ v % 16 ∧ v % 16 ≤ 14 ∧ v % 16 ≠ 13) (hb : b' = b - if v % 16 = 11 ∨ v % 16 = 12 then 1 else 0) (hc : c' = c + if v % 16 = 14 then 1 else 0) : EU r w' T (W + 1) D s u0 b' c' := by
  obtain ⟨a1, a2, a3, a4, a5, a6, a7, a8⟩ := h
  obtain ⟨n, rfl⟩ := Int.eq_ofNat_of_zero_le a3
  have e0 : ((n : Int) + 1).toNat = n + 1 := by omega
  rw [Int.toNat_natCast] at a5 a6
  have hcg : ∀ k : Nat, k < n → w k = w' k := fun k hk => (hr _ (by omega)).symm
  refine ⟨a1, a2, by omega, a4, ?_, ?_, ?_, a8⟩
  · rw [e0, a5, hb]
    show bn w n + b = bn w' n + (if w' n % 16 = 11 ∨ w' n % 16 = 12 then 1 else 0) + (b - if v % 16 = 11 ∨ v % 16 = 12 then 1 else 0)
    rw [hv, bn_cong n hcg]
    omega
  · rw [e0, hc]
    show on w' n + (if w' n % 16 = 14 then 1 else 0) = D - 1 + (c + if v % 16 = 14 then 1 else 0)
    rw [hv, ← on_cong n hcg, a6]
    omega
  · intro k h0 hk
    by_cases e : k = n
    · rw [e, hv]
      exact h1
    · rw [hr k e]
      exact a7 k h0 (by omega)
theorem EU_pop {r w : Int → Int} {T W D s : Int} {u0 : Int → Int} {b c v : Int} (h : EU r w T W D s u0 b c) (hW : 1 ≤ W) (hv : w (W - 1) = v) : EU r w T (W - 1) D s u0 (b + if v % 16 = 11 ∨ v % 16 = 12 then 1 else 0) (c - if v % 16 = 14 then 1 else 0) := by
  obtain ⟨a1, a2, a3, a4, a5, a6, a7, a8⟩ := h
  obtain ⟨n, rfl⟩ : ∃ n : Nat, W = n + 1 := ⟨(W - 1).toNat, by omega⟩
  have e0 : ((n : Int) + 1).toNat = n + 1 := by omega
  have e1 : ((n : Int) + 1 - 1) = n := by omega
  rw [e1] at hv
  rw [e0] at a5 a6
  have b1 : bn w (n + 1) = bn w n + if v % 16 = 11 ∨ v % 16 = 12 then 1 else 0 := by rw [← hv]; rfl
  have b2 : on w (n + 1) = on w n + if v % 16 = 14 then 1 else 0 := by rw [← hv]; rfl
  rw [b1] at a5
  rw [b2] at a6
  rw [e1]
  refine ⟨a1, a2, by omega, a4, ?_, ?_, fun k h0 hk => a7 k h0 (by omega), a8⟩
  · rw [a5, Int.toNat_natCast]
    omega
  · rw [Int.toNat_natCast]
    omega
theorem EU_D {r w : Int → Int} {T W D D' s : Int} {u0 : Int → Int} {b c c' : Int} (h : EU r w T W D s u0 b c) (hc : c' = c + D - D') : EU r w T W D' s u0 b c' := by
  obtain ⟨a1, a2, a3, a4, a5, a6, a7, a8⟩ := h
  exact ⟨a1, a2, a3, a4, a5, by omega, a7, a8⟩
theorem EU_open {r w : Int → Int} {T W D s : Int} {u0 : Int → Int} {b c : Int} (h : EU r w T W D s u0 b c) (hd : 2 ≤ D + c) : 1 ≤ W := by
  obtain ⟨a1, a2, a3, a4, a5, a6, a7, a8⟩ := h
  refine Int.not_lt.mp (fun q => ?_)
  have e : W.toNat = 0 := by omega
  rw [e] at a6
  have : on w 0 = 0 := rfl
  omega
def EI (M : Mm) (s : Int) (u0 : Int → Int) (b c : Int) : Prop := EU (fun k => M 757 k) (fun k => M 758 k) (M 739 45) (M 739 46) (M 739 47) s u0 b c
def GE (M : Mm) (s : Int) (u0 : Int → Int) (b c : Int) : Prop := M 739 28 = 0 → EI M s u0 b c
def GH (M : Mm) (s : Int) (u0 : Int → Int) : Prop := M 739 28 = 0 → EI M s u0 (M 739 51) 0
theorem GE_vac {M : Mm} {s : Int} {u0 : Int → Int} {b c v : Int} (h : M 739 28 = v) (h1 : 1 ≤ v) : GE M s u0 b c := fun q => by omega
theorem GH_vac {M : Mm} {s : Int} {u0 : Int → Int} {v : Int} (h : M 739 28 = v) (h1 : 1 ≤ v) : GH M s u0 := fun q => by omega
theorem GH_of0 {M : Mm} {s : Int} {u0 : Int → Int} {v : Int} (h : M 739 51 = v) (h1 : v = 0) (q : GE M s u0 0 0) : GH M s u0 := fun e => by
  rw [h, h1]
  exact q e
theorem GH_of1 {M : Mm} {s : Int} {u0 : Int → Int} {v : Int} (h : M 739 51 = v) (h1 : v = 1) (q : GE M s u0 1 0) : GH M s u0 := fun e => by
  rw [h, h1]
  exact q e
theorem GE_of0 {M : Mm} {s : Int} {u0 : Int → Int} {v : Int} (h : M 739 51 = v) (h1 : v = 0) (q : GH M s u0) : GE M s u0 0 0 := fun e => by
  have := q e
  rw [h, h1] at this
  exact this
theorem GE_of1 {M : Mm} {s : Int} {u0 : Int → Int} {v : Int} (h : M 739 51 = v) (h1 : v = 1) (q : GH M s u0) : GE M s u0 1 0 := fun e => by
  have := q e
  rw [h, h1] at this
  exact this
def PUT (M M2 : Mm) (v : Int) : Prop := M2 739 28 = M 739 28 ∧ M2 739 45 = M 739 45 + 1 ∧ M2 739 46 = M 739 46 ∧ M2 739 47 = M 739 47 ∧ M2 739 51 = M 739 51 ∧ (∀ k, M2 758 k = M 758 k) ∧ M2 757 (M 739 45) = v ∧ ∀ k, k ≠ M 739 45 → M2 757 k = M 757 k
def WAI (M M2 : Mm) (v : Int) : Prop := M2 739 28 = M 739 28 ∧ M2 739 46 = M 739 46 + 1 ∧ M2 739 45 = M 739 45 ∧ M2 739 47 = M 739 47 ∧ M2 739 51 = M 739 51 ∧ (∀ k, M2 757 k = M 757 k) ∧ M2 758 (M 739 46) = v ∧ ∀ k, k ≠ M 739 46 → M2 758 k = M 758 k
theorem put_mk {M0 M1 M2 : Mm} {t v w : Int} (h0 : M0 739 45 = t) (e1 : M1 = mUp M0 757 t v) (e2 : M2 = mUp M1 739 45 (t + 1)) (hv : v = w) : PUT M0 M2 w := by
  subst hv
  subst h0
  have q : ∀ a i : Int, (a ≠ 739 ∨ i ≠ 45) → (a ≠ 757 ∨ i ≠ M0 739 45) → M2 a i = M0 a i := fun a i h1 h2 => by rw [e2, mUp_ne h1, e1, mUp_ne h2]
  refine ⟨q _ _ (Or.inr (by decide)) (Or.inl (by decide)), ?_, q _ _ (Or.inr (by decide)) (Or.inl (by decide)), q _ _ (Or.inr (by decide)) (Or.inl (by decide)), q _ _ (Or.inr (by decide)) (Or.inl (by decide)), fun k => q _ _ (Or.inl (by decide)) (Or.inl (by decide)), ?_, fun k hk => q _ _ (Or.inl (by decide)) (Or.inr hk)⟩
  · rw [e2, mUp_eq]
  · rw [e2, mUp_ne (Or.inl (by decide)), e1, mUp_eq]
theorem wai_mk {M0 M1 M2 : Mm} {t v w : Int} (h0 : M0 739 46 = t) (e1 : M1 = mUp M0 758 t v) (e2 : M2 = mUp M1 739 46 (t + 1)) (hv : v = w) : WAI M0 M2 w := by
  subst hv
  subst h0
  have q : ∀ a i : Int, (a ≠ 739 ∨ i ≠ 46) → (a ≠ 758 ∨ i ≠ M0 739 46) → M2 a i = M0 a i := fun a i h1 h2 => by rw [e2, mUp_ne h1, e1, mUp_ne h2]
  refine ⟨q _ _ (Or.inr (by decide)) (Or.inl (by decide)), ?_, q _ _ (Or.inr (by decide)) (Or.inl (by decide)), q _ _ (Or.inr (by decide)) (Or.inl (by decide)), q _ _ (Or.inr (by decide)) (Or.inl (by decide)), fun k => q _ _ (Or.inl (by decide)) (Or.inl (by decide)), ?_, fun k hk => q _ _ (Or.inl (by decide)) (Or.inr hk)⟩
  · rw [e2, mUp_eq]
  · rw [e2, mUp_ne (Or.inl (by decide)), e1, mUp_eq]
theorem EI_put {M M2 : Mm} {s : Int} {u0 : Int → Int} {b c b' v : Int} (hp : PUT M M2 v) (h : EI M s u0 b c) (h1 : 1 ≤ v ∧ refok v ∧ 1 ≤ v % 16 ∧ v % 16 ≤ 13) (h2 : v % 16 = 10 ∨ v % 16 = 13 → 1 ≤ b) (h3 : v % 16 = 11 ∨ v % 16 = 12 → 2 ≤ b) (hb : b' = b + if v % 16 ≤ 9 then 1 else if v % 16 = 10 ∨ v % 16 = 13 then 0 else -1) : EI M2 s u0 b' c := by
  obtain ⟨p1, p2, p3, p4, p5, p6, p7, p8⟩ := hp
  unfold EI at h ⊢
  rw [p2, p3, p4, show (fun k => M2 758 k) = (fun k => M 758 k) from funext p6]
  have hn := bn_nn (fun k => M 758 k) (M 739 46).toNat
  exact EU_put h p8 p7 h1 (fun q => by have := h2 q; omega) (fun q => by have := h3 q; omega) hb
theorem EI_wait {M M2 : Mm} {s : Int} {u0 : Int → Int} {b c b' c' v : Int} (hp : WAI M M2 v) (h : EI M s u0 b c) (h1 : 10 ≤ v % 16 ∧ v % 16 ≤ 14 ∧ v % 16 ≠ 13) (hb : b' = b - if v % 16 = 11 ∨ v % 16 = 12 then 1 else 0) (hc : c' = c + if v % 16 = 14 then 1 else 0) : EI M2 s u0 b' c' := by
  obtain ⟨p1, p2, p3, p4, p5, p6, p7, p8⟩ := hp
  unfold EI at h ⊢
  rw [p2, p3, p4, show (fun k => M2 757 k) = (fun k => M 757 k) from funext p6]
  exact EU_wait h p8 p7 h1 hb hc
/-- an atom is put -/
theorem GE_atom {M M2 : Mm} {s : Int} {u0 : Int → Int} {v : Int} (hp : PUT M M2 v) (h : GE M s u0 0 0) (h1 : M 739 28 = 0 → 1 ≤ v ∧ refok v ∧ 1 ≤ v % 16 ∧ v % 16 ≤ 9) : GE M2 s u0 1 0 := by
  intro e
  have e0 : M 739 28 = 0 := by rw [← hp.1]; exact e
  obtain ⟨q1, q2, q3, q4⟩ := h1 e0
  exact EI_put hp (h e0) ⟨q1, q2, q3, by omega⟩ (fun q => by omega) (fun q => by omega) (by rw [if_pos q4]; rfl)
theorem GE_says {M M2 : Mm} {s : Int} {u0 : Int → Int} {v : Int} (hp : PUT M M2 v) (h : GE M s u0 1 0) (h1 : 1 ≤ v ∧ refok v ∧ v % 16 = 13) : GE M2 s u0 1 0 := by
  intro e
  have e0 : M 739 28 = 0 := by rw [← hp.1]; exact e
  obtain ⟨q1, q2, q3⟩ := h1
  exact EI_put hp (h e0) ⟨q1, q2, by omega, by omega⟩ (fun q => by omega) (fun q => by omega) (by rw [if_neg (by omega), if_pos (Or.inr q3)]; rfl)
theorem GH_no {M M2 : Mm} {s : Int} {u0 : Int → Int} {v : Int} (hp : WAI M M2 v) (h : GH M s u0) (h1 : v % 16 = 10) : GH M2 s u0 := by
  intro e
  have e0 : M 739 28 = 0 := by rw [← hp.1]; exact e
  rw [hp.2.2.2.2.1]
  exact EI_wait hp (h e0) (by omega) (by rw [if_neg (by omega)]; omega) (by rw [if_neg (by omega)]; rfl)
theorem GE_par {M M2 : Mm} {s : Int} {u0 : Int → Int} {v : Int} (hp : WAI M M2 v) (h : GE M s u0 0 0) (h1 : v % 16 = 14) : GE M2 s u0 0 1 := by
  intro e
  have e0 : M 739 28 = 0 := by rw [← hp.1]; exact e
  exact EI_wait hp (h e0) (by omega) (by rw [if_neg (by omega)]; rfl) (by rw [if_pos h1]; rfl)
theorem GE_bin {M M2 : Mm} {s : Int} {u0 : Int → Int} {v : Int} (hp : WAI M M2 v) (h : GE M s u0 1 0) (h1 : v % 16 = 11 ∨ v % 16 = 12) : GE M2 s u0 0 0 := by
  intro e
  have e0 : M 739 28 = 0 := by rw [← hp.1]; exact e
  exact EI_wait hp (h e0) (by omega) (by rw [if_pos h1]; rfl) (by rw [if_neg (by omega)]; rfl)
/-- deeper -/
theorem GE_deep {M M2 : Mm} {s : Int} {u0 : Int → Int} {d : Int} (e : M2 = mUp M 739 47 d) (hd : M 739 47 + 1 = d) (h : GE M s u0 0 1) : GE M2 s u0 0 0 := by
  intro q
  have q0 : M 739 28 = 0 := by rw [e, mUp_ne (Or.inr (by decide))] at q; exact q
  have h2 := h q0
  unfold EI at h2 ⊢
  rw [e, mUp_eq, mUp_ne (Or.inr (by decide)), mUp_ne (Or.inr (by decide))]
  exact EU_D h2 (by omega)
/-- a sign that waits is put -/
theorem GE_drop {M M1 M2 : Mm} {s : Int} {u0 : Int → Int} {w v x : Int} (h : GE M s u0 1 0) (hw : M 739 46 = w) (h1 : 1 ≤ w) (e1 : M1 = mUp M 739 46 (w - 1)) (hv : M1 758 (w - 1) = v) (hn : v % 16 ≠ 14) (hp : PUT M1 M2 x) (hx : x = v % 16) : GE M2 s u0 1 0 := by
  intro e
  subst hx
  have hv2 : M 758 (w - 1) = v := by rw [← hv, e1, mUp_ne (Or.inl (by decide))]
  have e0 : M 739 28 = 0 := by
    have := hp.1
    rw [e, e1, mUp_ne (Or.inr (by decide))] at this
    exact this.symm
  have h2 := h e0
  have ha := h2.2.2.2.2.2.2.1 (w - 1) (by omega) (by omega)
  have h3 := EU_pop h2 (by omega) (show (fun k => M 758 k) (M 739 46 - 1) = v by show M 758 (M 739 46 - 1) = v; rw [hw]; exact hv2)
  have ha2 : 10 ≤ v % 16 ∧ v % 16 ≤ 14 ∧ v % 16 ≠ 13 := by rw [← hv2]; exact ha
  rw [if_neg hn] at h3
  have h4 : EI M1 s u0 (1 + if v % 16 = 11 ∨ v % 16 = 12 then 1 else 0) 0 := by
    unfold EI
    rw [e1, mUp_eq, mUp_ne (Or.inr (by decide)), mUp_ne (Or.inr (by decide)), show (fun k => mUp M 739 46 (w - 1) 757 k) = (fun k => M 757 k) from funext fun k => mUp_ne (Or.inl (by decide)), show (fun k => mUp M 739 46 (w - 1) 758 k) = (fun k => M 758 k) from funext fun k => mUp_ne (Or.inl (by decide)), ← hw]
    exact h3
  have hr : refok (v % 16) := by
    unfold refok
    omega
  rcases (show v % 16 = 10 ∨ v % 16 = 11 ∨ v % 16 = 12 by omega) with q | q | q
  · rw [if_neg (by omega)] at h4
    exact EI_put hp h4 ⟨by omega, hr, by omega, by omega⟩ (fun _ => by omega) (fun _ => by omega) (by rw [if_neg (by omega), if_pos (by omega)]; rfl)
  · rw [if_pos (by omega)] at h4
    exact EI_put hp h4 ⟨by omega, hr, by omega, by omega⟩ (fun _ => by omega) (fun _ => by omega) (by rw [if_neg (by omega), if_neg (by omega)]; rfl)
  · rw [if_pos (by omega)] at h4
    exact EI_put hp h4 ⟨by omega, hr, by omega, by omega⟩ (fun _ => by omega) (fun _ => by omega) (by rw [if_neg (by omega), if_neg (by omega)]; rfl)
/-- a parenthesis is closed -/
theorem GE_close {M M1 M2 : Mm} {s : Int} {u0 : Int → Int} {w d : Int} (h : GE M s u0 1 0) (hw : M 739 46 = w) (h1 : 1 ≤ w) (hd : M 739 47 = d) (hl : M 739 46 = 0 ∨ M 758 (M 739 46 - 1) % 16 = 14) (e1 : M1 = mUp M 739 46 (w - 1)) (e2 : M2 = mUp M1 739 47 (d - 1)) : GE M2 s u0 1 0 := by
  intro e
  have e0 : M 739 28 = 0 := by rw [e2, mUp_ne (Or.inr (by decide)), e1, mUp_ne (Or.inr (by decide))] at e; exact e
  have h2 := h e0
  have h3 := EU_pop h2 (by omega) rfl
  have h4 : (fun k => M 758 k) (M 739 46 - 1) % 16 = 14 := by
    rcases hl with q | q
    · omega
    · exact q
  rw [if_pos h4, if_neg (by omega)] at h3
  have h5 := EU_D (D' := d - 1) (c' := 0) h3 (by omega)
  unfold EI
  rw [e2, mUp_eq, mUp_ne (Or.inr (by decide)), mUp_ne (Or.inr (by decide)), e1, mUp_eq, mUp_ne (Or.inr (by decide)), show (fun k => mUp (mUp M 739 46 (w - 1)) 739 47 (d - 1) 757 k) = (fun k => M 757 k) from funext fun k => by rw [mUp_ne (Or.inl (by decide)), mUp_ne (Or.inl (by decide))], show (fun k => mUp (mUp M 739 46 (w - 1)) 739 47 (d - 1) 758 k) = (fun k => M 758 k) from funext fun k => by rw [mUp_ne (Or.inl (by decide)), mUp_ne (Or.inl (by decide))], ← hw]
  exact h5
theorem cl_val {M M1 M2 : Mm} {w d v : Int} (hl : M 739 46 = 0 ∨ M 758 (M 739 46 - 1) % 16 = 14) (hw : M 739 46 = w) (h1 : 1 ≤ w) (e1 : M1 = mUp M 739 46 (w - 1)) (e2 : M2 = mUp M1 739 47 d) (hv : M2 758 (w - 1) = v) : v % 16 = 14 := by
  rw [e2, mUp_ne (Or.inl (by decide)), e1, mUp_ne (Or.inl (by decide))] at hv
  rcases hl with q | q
  · omega
  · rw [hw, hv] at q
    exact q
theorem GE_open {M : Mm} {s : Int} {u0 : Int → Int} {f d : Int} (h : GE M s u0 1 0) (hf : M 739 28 = f) (h0 : f = 0) (hd : M 739 47 = d) (h2 : 2 ≤ d) : 1 ≤ M 739 46 := EU_open (h (by omega)) (by omega)
theorem GE_init {M : Mm} {t : Int} {u0 : Int → Int} (h1 : M 739 45 = t) (h0 : 0 ≤ t) (h2 : M 739 46 = 0) (h3 : M 739 47 = 0) (hu : ∀ k, M 757 k = u0 k) : GE M t u0 0 1 := by
  intro _
  unfold EI
  rw [h1, h2, h3]
  refine ⟨h0, Int.le_refl _, Int.le_refl _, fun n hn => by omega, ?_, rfl, fun k a b => by omega, fun k _ => hu k⟩
  rw [Int.sub_self]
  rfl
/-! rows of signs, each behind the other, each with its end -/
def SEG (u : Int → Int) (s e : Int) : Prop := 0 ≤ s ∧ s ≤ e - 1 ∧ Vd u s (e - 1) ∧ u (e - 1) = 0
def ESP (M0 M : Mm) (t : Int) : Prop := M 739 28 = 0 → SEG (fun k => M 757 k) t (M 739 45) ∧ ∀ k, k < t → M 757 k = M0 757 k
theorem ES_put {M M0 M2 : Mm} {s v : Int} (hp : PUT M M2 v) (h : GE M s (fun k => M0 757 k) 1 0) (hv : v = 0) : ESP M0 M2 s := by
  intro e
  subst hv
  have e0 : M 739 28 = 0 := by rw [← hp.1]; exact e
  obtain ⟨a1, a2, a3, a4, a5, a6, a7, a8⟩ := h e0
  obtain ⟨p1, p2, p3, p4, p5, p6, p7, p8⟩ := hp
  refine ⟨⟨a1, by omega, ?_, ?_⟩, fun k hk => by rw [p8 k (by omega)]; exact a8 k hk⟩
  · rw [p2, Int.add_sub_cancel]
    exact Vd_cong (fun k _ hk => (p8 k (by omega)).symm) a4
  · show M2 757 (M2 739 45 - 1) = 0
    rw [p2, Int.add_sub_cancel]
    exact p7
theorem SEG_cong {u v : Int → Int} {s e : Int} (h : ∀ k : Int, s ≤ k → k < e → u k = v k) (hs : SEG u s e) : SEG v s e := by
  obtain ⟨a1, a2, a3, a4⟩ := hs
  refine ⟨a1, a2, Vd_cong (fun k h0 h1 => h k h0 (by omega)) a3, ?_⟩
  rw [← h (e - 1) a2 (by omega)]
  exact a4
def FD (u : Int → Int) : Nat → Int → Int → Prop
  | 0, s, e => s = e
  | n + 1, s, e => ∃ m, SEG u s m ∧ FD u n m e
theorem FD_le {u : Int → Int} : ∀ (n : Nat) (s e : Int), FD u n s e → s ≤ e := by
  intro n
  induction n with
  | zero => intro s e h; have h' : s = e := h; omega
  | succ n ih =>
    intro s e h
    obtain ⟨m, h1, h2⟩ := h
    have := ih m e h2
    have := h1.2.1
    omega
theorem FD_snoc {u : Int → Int} : ∀ (n : Nat) (s m e : Int), FD u n s m → SEG u m e → FD u (n + 1) s e := by
  intro n
  induction n with
  | zero =>
    intro s m e h hs
    have h' : s = m := h
    subst h'
    exact ⟨e, hs, rfl⟩
  | succ n ih =>
    intro s m e h hs
    obtain ⟨x, h1, h2⟩ := h
    exact ⟨x, h1, ih x m e h2 hs⟩
theorem FD_cong {u v : Int → Int} : ∀ (n : Nat) (s e : Int), (∀ k : Int, s ≤ k → k < e → u k = v k) → FD u n s e → FD v n s e := by
  intro n
  induction n with
  | zero => intro s e _ h; exact h
  | succ n ih =>
    intro s e hc h
    obtain ⟨m, h1, h2⟩ := h
    have q1 := FD_le n m e h2
    have q2 := h1.2.1
    exact ⟨m, SEG_cong (fun k a b => hc k a (by omega)) h1, ih m e (fun k a b => hc k (by omega) b) h2⟩
theorem SEG_ok {u : Int → Int} {s e : Int} (h : SEG u s e) : ∀ k : Int, s ≤ k → k < e → refok (u k) := by
  intro k h0 h1
  by_cases q : k = e - 1
  · rw [q, h.2.2.2]
    unfold refok
    decide
  · have := h.2.2.1 (k - s).toNat (by omega)
    unfold stp at this
    rw [show s + ((k - s).toNat : Int) = k by omega] at this
    exact this.2.1
theorem FD_ok {u : Int → Int} : ∀ (n : Nat) (s e : Int), FD u n s e → ∀ k : Int, s ≤ k → k < e → refok (u k) := by
  intro n
  induction n with
  | zero => intro s e h k h0 h1; have h' : s = e := h; omega
  | succ n ih =>
    intro s e h k h0 h1
    obtain ⟨m, a1, a2⟩ := h
    rcases Int.lt_or_le k m with q | q
    · exact SEG_ok a1 k h0 q
    · exact ih m e a2 k q h1
def FP (M : Mm) : Prop := M 739 28 = 0 → 0 ≤ M 739 44 ∧ FD (fun k => M 757 k) (M 739 44).toNat 0 (M 739 45)
/-- one FACT more -/
theorem FP_step {M0 M M2 : Mm} {t n : Int} (h0 : FP M0) (ht : M0 739 45 = t) (hg : M0 739 28 = 0) (hs : ESP M0 M t) (hn : M 739 44 = M0 739 44) (e : M2 = mUp M 739 44 n) (hn2 : n = M 739 44 + 1) : FP M2 := by
  intro q
  have q0 : M 739 28 = 0 := by rw [e, mUp_ne (Or.inr (by decide))] at q; exact q
  obtain ⟨a1, a2⟩ := h0 hg
  obtain ⟨b1, b2⟩ := hs q0
  rw [e, mUp_eq, mUp_ne (Or.inr (by decide)), show (fun k => mUp M 739 44 n 757 k) = (fun k => M 757 k) from funext fun k => mUp_ne (Or.inl (by decide)), hn2, hn]
  refine ⟨by omega, ?_⟩
  rw [show (M0 739 44 + 1).toNat = (M0 739 44).toNat + 1 by omega]
  rw [ht] at a2
  exact FD_snoc _ _ t _ (FD_cong _ _ _ (fun k _ hk => (b2 k hk).symm) a2) b1
/-! ===== the model's sentences: rows of signs that are kept ===== -/
theorem hgt_sh {u v : Int → Int} {s c : Int} : ∀ n : Nat, (∀ k : Nat, k < n → v (s + c + k) = u (s + k)) → hgt v (s + c) n = hgt u s n := by
  intro n
  induction n with
  | zero => intro _; rfl
  | succ n ih =>
    intro h
    show (if v (s + c + n) % 16 ≤ 9 then hgt v (s + c) n + 1 else if v (s + c + n) % 16 = 10 ∨ v (s + c + n) % 16 = 13 then hgt v (s + c) n else hgt v (s + c) n - 1) = (if u (s + n) % 16 ≤ 9 then hgt u s n + 1 else if u (s + n) % 16 = 10 ∨ u (s + n) % 16 = 13 then hgt u s n else hgt u s n - 1)
    rw [ih (fun k hk => h k (by omega)), h n (by omega)]
theorem SEG_sh {u v : Int → Int} {s e c : Int} (h : SEG u s e) (hc : 0 ≤ s + c) (hu : ∀ k : Int, s ≤ k → k < e → v (k + c) = u k) : SEG v (s + c) (e + c) := by
  obtain ⟨a1, a2, a3, a4⟩ := h
  have hk : ∀ k : Nat, s + k < e → v (s + c + k) = u (s + k) := fun k q => by rw [show s + c + (k : Int) = s + k + c by omega]; exact hu _ (by omega) q
  refine ⟨hc, by omega, ?_, ?_⟩
  · intro n hn
    have h1 := a3 n (by omega)
    unfold stp at h1 ⊢
    rw [hgt_sh n (fun k q => hk k (by omega)), hk n (by omega)]
    exact h1
  · rw [show e + c - 1 = e - 1 + c by omega, hu _ a2 (by omega)]
    exact a4
def WS (M : Mm) : Prop := ∀ s : Int, 0 ≤ s → s < M 739 13 → ∃ e, e ≤ 400 * s + 400 ∧ SEG (fun k => M 747 k) (400 * s) e
def QW (M : Mm) : Prop := ∀ q : Int, 0 ≤ q → q < M 739 21 → M 754 q < M 739 13
def SGP (M : Mm) : Prop := M 739 28 = 0 → SEG (fun k => M 757 k) 0 (M 739 45)
theorem SG_of {M0 M : Mm} {t : Int} (h : ESP M0 M t) (ht : t = 0) : SGP M := fun q => by
  subst ht
  exact (h q).1
theorem SGP_get {M : Mm} {u : Int → Int} {f t : Int} (h : SGP M) (hf : M 739 28 = f) (h0 : f = 0) (hu : ∀ k, M 757 k = u k) (ht : M 739 45 = t) : SEG u 0 t := by
  have q := h (by omega)
  rw [ht, show (fun k => M 757 k) = u from funext hu] at q
  exact q
theorem cp_step {M M2 : Mm} {u : Int → Int} {A S i v : Int} (e : M2 = mUp M A (S + i) v) (h : ∀ k : Int, 0 ≤ k → k < i → M A (S + k) = u k) (hv : M 757 i = v) (hu : ∀ k, M 757 k = u k) : ∀ k : Int, 0 ≤ k → k < i + 1 → M2 A (S + k) = u k := by
  intro k h0 h1
  by_cases q : k = i
  · subst q
    rw [e, mUp_eq, ← hv, hu]
  · rw [e, mUp_ne (Or.inr (by omega))]
    exact h k h0 (by omega)
theorem WS_new {Ma M M2 : Mm} {S T : Int} {u : Int → Int} (hWa : WS Ma) (hS : Ma 739 13 = S) (hS0 : 0 ≤ S) (hB : ∀ k : Int, k < 400 * S → M 747 k = Ma 747 k) (hsg : SEG u 0 T) (hA : ∀ k : Int, 0 ≤ k → k < T → M 747 (400 * S + k) = u k) (hT : T ≤ 400) (e : M2 = mUp M 739 13 (S + 1)) : WS M2 := by
  have e7 : (fun k => M2 747 k) = (fun k => M 747 k) := funext fun k => by rw [e, mUp_ne (Or.inl (by decide))]
  intro s h0 h1
  rw [e, mUp_eq] at h1
  rw [e7]
  by_cases q : s = S
  · subst q
    refine ⟨T + 400 * s, by omega, ?_⟩
    have := SEG_sh (v := fun k => M 747 k) (c := 400 * s) hsg (by omega) (fun k a b => by show M 747 (k + 400 * s) = u k; rw [show k + 400 * s = 400 * s + k by omega]; exact hA k a b)
    rw [Int.zero_add] at this
    exact this
  · obtain ⟨x, hx, hs⟩ := hWa s h0 (by omega)
    exact ⟨x, hx, SEG_cong (fun k a b => (hB k (by omega)).symm) hs⟩
theorem QW_new {M M2 : Mm} {S : Int} (h : QW M) (hS : M 739 13 = S) (e : M2 = mUp M 739 13 (S + 1)) : QW M2 := by
  intro q h0 h1
  rw [e, mUp_ne (Or.inr (by decide))] at h1
  rw [e, mUp_eq, mUp_ne (Or.inl (by decide))]
  have := h q h0 h1
  omega
/-! ===== what a row of signs is worth ===== -/
theorem hgt_rg {u : Int → Int} {s e : Int} (h : Vd u s e) : ∀ n : Nat, s + n ≤ e → 0 ≤ hgt u s n ∧ hgt u s n ≤ n := by
  intro n
  induction n with
  | zero => intro _; exact ⟨Int.le_refl _, Int.le_refl _⟩
  | succ n ih =>
    intro hn
    have h1 := ih (by omega)
    have h2 := h n (by omega)
    unfold stp at h2
    show 0 ≤ (if u (s + n) % 16 ≤ 9 then hgt u s n + 1 else if u (s + n) % 16 = 10 ∨ u (s + n) % 16 = 13 then hgt u s n else hgt u s n - 1) ∧ (if u (s + n) % 16 ≤ 9 then hgt u s n + 1 else if u (s + n) % 16 = 10 ∨ u (s + n) % 16 = 13 then hgt u s n else hgt u s n - 1) ≤ ((n + 1 : Nat) : Int)
    split
    · omega
    · split <;> omega
theorem wr_at {u : Int → Int} {s e k m v : Int} (h : SEG u s e) (h0 : s ≤ k) (h1 : k ≤ e - 1) (hv : u k = v) (hm : m = hgt u s (k - s).toNat) : (0 ≤ m ∧ m ≤ k - s) ∧ ((v = 0 ∧ k = e - 1) ∨ (k < e - 1 ∧ 1 ≤ v ∧ (0 ≤ v ∧ v ≤ 300000 ∧ (v % 16 = 1 → v / 16 % 128 ≤ 6) ∧ (v % 16 = 2 → v / 16 % 128 ≤ 6 ∧ v / 2048 ≤ 6) ∧ (v % 16 = 13 → v / 16 % 128 ≤ 6)) ∧ 1 ≤ v % 16 ∧ v % 16 ≤ 13 ∧ (v % 16 = 10 ∨ v % 16 = 13 → 1 ≤ m) ∧ (v % 16 = 11 ∨ v % 16 = 12 → 2 ≤ m))) := by
  obtain ⟨a1, a2, a3, a4⟩ := h
  have hr := hgt_rg a3 (k - s).toNat (by omega)
  rw [← hm] at hr
  refine ⟨⟨hr.1, by omega⟩, ?_⟩
  by_cases q : k = e - 1
  · left
    subst q
    exact ⟨by rw [← hv]; exact a4, rfl⟩
  · right
    have h2 := a3 (k - s).toNat (by omega)
    unfold stp refok at h2
    rw [show s + ((k - s).toNat : Int) = k by omega, hv, ← hm] at h2
    exact ⟨by omega, h2⟩
theorem hg_up {u : Int → Int} {s k m v : Int} (h0 : s ≤ k) (hv : u k = v) (hm : m = hgt u s (k - s).toNat) : hgt u s (k + 1 - s).toNat = if v % 16 ≤ 9 then m + 1 else if v % 16 = 10 ∨ v % 16 = 13 then m else m - 1 := by
  rw [show (k + 1 - s).toNat = (k - s).toNat + 1 by omega]
  show (if u (s + ((k - s).toNat : Nat)) % 16 ≤ 9 then hgt u s (k - s).toNat + 1 else if u (s + ((k - s).toNat : Nat)) % 16 = 10 ∨ u (s + ((k - s).toNat : Nat)) % 16 = 13 then hgt u s (k - s).toNat else hgt u s (k - s).toNat - 1) = _
  rw [show s + ((k - s).toNat : Int) = k by omega, hv, ← hm]
theorem SEG_row {M M0 : Mm} {A s e : Int} (h : ∀ k, M A k = M0 A k) (q : SEG (fun k => M0 A k) s e) : SEG (fun k => M A k) s e := SEG_cong (fun k _ _ => (h k).symm) q
theorem FD_cons {u : Int → Int} {n : Nat} {s e : Int} (h : FD u n s e) (hn : 0 < n) : ∃ m, SEG u s m ∧ FD u (n - 1) m e ∧ m ≤ e := by
  cases n with
  | zero => omega
  | succ n =>
    obtain ⟨m, h1, h2⟩ := h
    exact ⟨m, h1, h2, FD_le n m e h2⟩
/-- FACTS: rows of signs, one behind another -/
def FFP (M : Mm) (fe : Int) : Prop := 0 ≤ M 739 4 ∧ FD (fun k => M 741 k) (M 739 4).toNat 0 fe ∧ fe ≤ 300
/-! ===== how many choices one has; the number of a row of choices ===== -/
def bT (m : Int) : Int := m % 2 + m / 2 % 2 + m / 4 % 2 + m / 8 % 2 + m / 16 % 2
def cT (m : Int) : Int := m % 2 + m / 2 % 2 + 2 * (m / 4 % 2) + m / 8 % 2 + m / 16 % 2
theorem cT_posN : ∀ n : Nat, n < 32 → n ≠ 0 → 1 ≤ cT (n : Int) := by
  unfold cT
  decide
theorem cT_pos {m : Int} (h : 1 ≤ m ∧ m ≤ 31) : 1 ≤ cT m := by
  obtain ⟨n, rfl⟩ := Int.eq_ofNat_of_zero_le (show 0 ≤ m by omega)
  exact cT_posN n (by omega) (by omega)
theorem cT_nn (m : Int) : 0 ≤ cT m := by
  unfold cT
  omega
def HH (u m : Int → Int) : Nat → Int
  | 0 => 0
  | j + 1 => HH u m j * cT (m j) + u j
def PRD (m : Int → Int) (i : Int) : Nat → Int
  | 0 => 1
  | k + 1 => PRD m i k * cT (m (i + k))
theorem HH_cong {u v m : Int → Int} : ∀ n : Nat, (∀ k : Nat, k < n → u k = v k) → HH u m n = HH v m n := by
  intro n
  induction n with
  | zero => intro _; rfl
  | succ n ih =>
    intro h
    show HH u m n * cT (m n) + u n = HH v m n * cT (m n) + v n
    rw [ih (fun k hk => h k (by omega)), h n (by omega)]
theorem HH_nn {u m : Int → Int} : ∀ n : Nat, (∀ k : Nat, k < n → 0 ≤ u k) → 0 ≤ HH u m n := by
  intro n
  induction n with
  | zero => intro _; exact Int.le_refl _
  | succ n ih =>
    intro h
    have h1 := Int.mul_nonneg (ih (fun k hk => h k (by omega))) (cT_nn (m n))
    have h2 := h n (by omega)
    show 0 ≤ HH u m n * cT (m n) + u n
    omega
theorem HH_lt {u m : Int → Int} : ∀ n : Nat, (∀ k : Nat, k < n → u k + 1 ≤ cT (m k)) → HH u m n + 1 ≤ PRD m 0 n := by
  intro n
  induction n with
  | zero => intro _; exact Int.le_refl _
  | succ n ih =>
    intro h
    have h1 := Int.mul_le_mul_of_nonneg_right (ih (fun k hk => h k (by omega))) (cT_nn (m n))
    have h2 := h n (by omega)
    rw [Int.add_mul, Int.one_mul] at h1
    show HH u m n * cT (m n) + u n + 1 ≤ PRD m 0 n * cT (m (0 + n))
    rw [Int.zero_add]
    omega
theorem HH_z {u m : Int → Int} {i : Nat} : ∀ k : Nat, (∀ j : Nat, i ≤ j → j < i + k → u j = 0) → HH u m (i + k) = HH u m i * PRD m i k := by
  intro k
  induction k with
  | zero => intro _; exact (Int.mul_one _).symm
  | succ k ih =>
    intro h
    show HH u m (i + k) * cT (m ((i + k : Nat) : Int)) + u ((i + k : Nat) : Int) = HH u m i * (PRD m i k * cT (m (i + k)))
    rw [ih (fun j a b => h j a (by omega)), h (i + k) (by omega) (by omega), Int.add_zero, Int.mul_assoc, Int.natCast_add]
theorem PRD_hd {m : Int → Int} {i : Int} : ∀ k : Nat, PRD m i (k + 1) = cT (m i) * PRD m (i + 1) k := by
  intro k
  induction k with
  | zero =>
    show 1 * cT (m (i + (0 : Nat))) = cT (m i) * 1
    rw [Int.one_mul, Int.mul_one, Int.natCast_zero, Int.add_zero]
  | succ k ih =>
    show PRD m i (k + 1) * cT (m (i + (k + 1 : Nat))) = cT (m i) * (PRD m (i + 1) k * cT (m (i + 1 + k)))
    rw [ih, Int.mul_assoc, show i + ((k + 1 : Nat) : Int) = i + 1 + k by omega]
def VC (M : Mm) : Int := HH (fun k => M 760 k) (fun k => M 740 k) (M 739 1).toNat
def CHP (M : Mm) : Prop := ∀ p : Int, 0 ≤ p → p < M 739 1 → M 760 p < cT (M 740 p)
theorem VC_nn {M : Mm} (hP : Pw M) (h7 : M 739 1 ≤ 7) (hb : ∀ i : Int, 0 ≤ i → i < 7 → 0 ≤ M 760 i) : 0 ≤ VC M := HH_nn _ (fun k hk => hb k (by omega) (by omega))
theorem VC_lt {M : Mm} {R P : Int} (hc : CHP M) (hR : 0 ≤ R) (hb : R * PRD (fun k => M 740 k) 0 (M 739 1).toNat ≤ P) : R * VC M + R ≤ P := by
  have h1 := HH_lt (u := fun k => M 760 k) (m := fun k => M 740 k) (M 739 1).toNat (fun k hk => by have := hc k (by omega) (by omega); show M 760 k + 1 ≤ cT (M 740 k); omega)
  have h2 := Int.mul_le_mul_of_nonneg_left h1 hR
  rw [Int.mul_add, Int.mul_one] at h2
  unfold VC
  omega
/-- the choices from p + 1 on are none any more; what stands, and one more, is what stood, and one more -/
def DCI (M : Mm) (N p cv : Int) : Prop := (∀ k : Int, p < k → k < N → M 760 k = 0) ∧ (HH (fun k => M 760 k) (fun k => M 740 k) (p + 1).toNat + 1) * PRD (fun k => M 740 k) (p + 1) (N - (p + 1)).toNat = cv + 1
theorem DC_in {M : Mm} {N p cv : Int} (hN : M 739 1 = N) (hp : p + 1 = N) (h : VC M = cv) : DCI M N p cv := by
  refine ⟨fun k a b => by omega, ?_⟩
  rw [hp, Int.sub_self, ← hN]
  show (VC M + 1) * 1 = cv + 1
  rw [Int.mul_one, h]
theorem DC_st {M M2 : Mm} {N p cv : Int} (h : DCI M N p cv) (h0 : 0 ≤ p) (h1 : p < N) (hx : cT (M 740 p) ≤ M 760 p + 1) (hc : M 760 p < cT (M 740 p)) (e : M2 = mUp M 760 p 0) : DCI M2 N (p - 1) cv := by
  obtain ⟨a1, a2⟩ := h
  have e4 : (fun k => M2 740 k) = (fun k => M 740 k) := funext fun k => by rw [e, mUp_ne (Or.inl (by decide))]
  refine ⟨fun k b1 b2 => ?_, ?_⟩
  · by_cases q : k = p
    · rw [q, e, mUp_eq]
    · rw [e, mUp_ne (Or.inr q)]
      exact a1 k (by omega) b2
  · obtain ⟨j, rfl⟩ := Int.eq_ofNat_of_zero_le h0
    obtain ⟨t, ht⟩ : ∃ t : Nat, N = j + 1 + t := ⟨(N - (j + 1)).toNat, by omega⟩
    rw [show ((j : Int) + 1).toNat = j + 1 by omega, show (N - ((j : Int) + 1)).toNat = t by omega] at a2
    rw [e4, show ((j : Int) - 1 + 1) = j by omega, Int.toNat_natCast, show (N - (j : Int)).toNat = t + 1 by omega, PRD_hd, ← a2]
    have h2 : HH (fun k => M2 760 k) (fun k => M 740 k) j = HH (fun k => M 760 k) (fun k => M 740 k) j := HH_cong j (fun k hk => by show M2 760 k = M 760 k; rw [e, mUp_ne (Or.inr (by omega))])
    rw [h2, ← Int.mul_assoc]
    have h3 : (HH (fun k => M 760 k) (fun k => M 740 k) j + 1) * cT (M 740 j) = HH (fun k => M 760 k) (fun k => M 740 k) (j + 1) + 1 := by
      show _ = HH (fun k => M 760 k) (fun k => M 740 k) j * cT (M 740 j) + M 760 j + 1
      rw [Int.add_mul, Int.one_mul]
      omega
    rw [h3]
theorem DC_inc {M M2 : Mm} {N p cv v : Int} (h : DCI M N p cv) (hN : M 739 1 = N) (h0 : 0 ≤ p) (h1 : p < N) (hv : M 760 p = v) (e : M2 = mUp M 760 p (v + 1)) : VC M2 = cv + 1 := by
  obtain ⟨a1, a2⟩ := h
  have e4 : (fun k => M2 740 k) = (fun k => M 740 k) := funext fun k => by rw [e, mUp_ne (Or.inl (by decide))]
  obtain ⟨j, rfl⟩ := Int.eq_ofNat_of_zero_le h0
  obtain ⟨t, ht⟩ : ∃ t : Nat, N = j + 1 + t := ⟨(N - (j + 1)).toNat, by omega⟩
  rw [show ((j : Int) + 1).toNat = j + 1 by omega, show (N - ((j : Int) + 1)).toNat = t by omega] at a2
  have hN2 : M2 739 1 = N := by rw [e, mUp_ne (Or.inl (by decide))]; exact hN
  unfold VC
  rw [hN2, show N.toNat = j + 1 + t by omega, e4, HH_z (i := j + 1) t (fun k b1 b2 => by show M2 760 k = 0; rw [e, mUp_ne (Or.inr (by omega))]; exact a1 k (by omega) (by omega)), ← a2]
  have h2 : HH (fun k => M2 760 k) (fun k => M 740 k) (j + 1) = HH (fun k => M 760 k) (fun k => M 740 k) (j + 1) + 1 := by
    have h3 : HH (fun k => M2 760 k) (fun k => M 740 k) j = HH (fun k => M 760 k) (fun k => M 740 k) j := HH_cong j (fun k hk => by show M2 760 k = M 760 k; rw [e, mUp_ne (Or.inr (by omega))])
    show HH (fun k => M2 760 k) (fun k => M 740 k) j * cT (M 740 j) + M2 760 j = HH (fun k => M 760 k) (fun k => M 740 k) j * cT (M 740 j) + M 760 j + 1
    rw [h3, e, mUp_eq, hv]
    omega
  rw [h2, Int.natCast_add]
  rfl
theorem CH_zero {M M2 : Mm} {p : Int} (h : CHP M) (hp : 1 ≤ cT (M 740 p)) (e : M2 = mUp M 760 p 0) : CHP M2 := by
  intro q h0 h1
  rw [e, mUp_ne (Or.inl (by decide))] at h1
  rw [e, mUp_ne (a' := 740) (Or.inl (by decide))]
  by_cases x : q = p
  · rw [x, mUp_eq]
    omega
  · rw [mUp_ne (Or.inr x)]
    exact h q h0 h1
theorem CH_inc {M M2 : Mm} {p v : Int} (h : CHP M) (hp : v + 1 < cT (M 740 p)) (e : M2 = mUp M 760 p (v + 1)) : CHP M2 := by
  intro q h0 h1
  rw [e, mUp_ne (Or.inl (by decide))] at h1
  rw [e, mUp_ne (a' := 740) (Or.inl (by decide))]
  by_cases x : q = p
  · rw [x, mUp_eq]
    exact hp
  · rw [mUp_ne (Or.inr x)]
    exact h q h0 h1
theorem CH_all {M : Mm} (hz : ∀ k : Int, 0 ≤ k → k < M 739 1 → M 760 k = 0) (hm : ∀ k : Int, 0 ≤ k → k < 7 → 1 ≤ M 740 k ∧ M 740 k ≤ 31) (h7 : M 739 1 ≤ 7) : CHP M ∧ VC M = 0 := by
  refine ⟨fun p h0 h1 => ?_, ?_⟩
  · rw [hz p h0 h1]
    have := cT_pos (hm p h0 (by omega))
    omega
  · have h := HH_z (u := fun k => M 760 k) (m := fun k => M 740 k) (i := 0) (M 739 1).toNat (fun j _ hj => hz j (by omega) (by omega))
    rw [Nat.zero_add] at h
    unfold VC
    rw [h]
    exact Int.zero_mul _
theorem bT_step : ∀ x : Nat, x < 32 → x ≠ 0 → bT ((x &&& (x - 1) : Nat) : Int) + 1 = bT (x : Int) := by
  unfold bT
  decide
/-! ===== how many fit ===== -/
def AL (M : Mm) : Int := pw (M 739 15) - 1
def cnF (u : Int → Int) (a : Int) : Nat → Int
  | 0 => 0
  | n + 1 => cnF u a n + if u n = a then 1 else 0
theorem cnF_y {u : Int → Int} {a w : Int} (h0 : 0 ≤ w) (h : u w = a) : cnF u a (w + 1).toNat = cnF u a w.toNat + 1 := by
  obtain ⟨n, rfl⟩ := Int.eq_ofNat_of_zero_le h0
  rw [show ((n : Int) + 1).toNat = n + 1 by omega, Int.toNat_natCast]
  show cnF u a n + (if u n = a then 1 else 0) = _
  rw [if_pos h]
theorem cnF_n {u : Int → Int} {a w : Int} (h0 : 0 ≤ w) (h : u w ≠ a) : cnF u a (w + 1).toNat = cnF u a w.toNat := by
  obtain ⟨n, rfl⟩ := Int.eq_ofNat_of_zero_le h0
  rw [show ((n : Int) + 1).toNat = n + 1 by omega, Int.toNat_natCast]
  show cnF u a n + (if u n = a then 1 else 0) = _
  rw [if_neg h, Int.add_zero]
theorem cnF_mono {u : Int → Int} {a : Int} {m : Nat} : ∀ n : Nat, m ≤ n → cnF u a m ≤ cnF u a n := by
  intro n
  induction n with
  | zero => intro h; rw [show m = 0 by omega]; exact Int.le_refl _
  | succ n ih =>
    intro h
    by_cases q : m = n + 1
    · rw [q]
      exact Int.le_refl _
    · have := ih (by omega)
      show cnF u a m ≤ cnF u a n + if u n = a then 1 else 0
      split <;> omega
theorem cnF_le {u : Int → Int} {a w n : Int} (h : w ≤ n) : cnF u a w.toNat ≤ cnF u a n.toNat := cnF_mono _ (by omega)
def CFP (M : Mm) : Prop := cnF (fun k => M 752 k) (AL M) (M 739 7).toNat ≤ 300
theorem PRD_M {M M0 : Mm} {N : Nat} (h : ∀ k, M 740 k = M0 740 k) : PRD (fun k => M 740 k) 0 N = PRD (fun k => M0 740 k) 0 N := by rw [show (fun k => M 740 k) = (fun k => M0 740 k) from funext h]
theorem mul_ub {R a b x : Int} (h : a = b + 1) (hx : R * b = x) : R * a = x + R := by rw [h, Int.mul_add, Int.mul_one, hx]
theorem cv_ub {R c x : Int} (hR : 1 ≤ R) (h0 : 0 ≤ c) (hx : R * c = x) (h : x + R ≤ 3000) : c ≤ 2999 := by
  have := Int.mul_le_mul_of_nonneg_right hR h0
  rw [Int.one_mul] at this
  omega
theorem cT_lt {a m : Int} (h : a < cT m) : a ≤ 5 := by
  unfold cT at h
  omega
/-! ===== an island's size ===== -/
theorem bits_back {v x k y : Int} (h : k + bT x = bT v) (hx : 0 ≤ x ∧ x ≤ 31) (h0 : x ≠ 0) (hy : y = ((x.toNat &&& (x - 1).toNat : Nat) : Int)) : k + 1 + bT y = bT v := by
  obtain ⟨n, rfl⟩ := Int.eq_ofNat_of_zero_le hx.1
  have h1 := bT_step n (by omega) (by omega)
  rw [hy, Int.toNat_natCast, show ((n : Int) - 1).toNat = n - 1 by omega]
  omega
/-- the size read: what it is, or more than 3000 -/
def SZI (u : Int → Int) (R v p : Int) : Prop := v = R * PRD u 0 p.toNat ∨ v = 3001
theorem SZ_st {u : Int → Int} {R v p b w r z : Int} (h : SZI u R v p) (hp : 0 ≤ p) (hu : u p = b) (hb : 1 ≤ b ∧ b ≤ 31) (hw : w = bT b + b / 4 % 2) (hr : r = v * w) (hz : (r ≤ 3000 ∧ z = r) ∨ (3000 < r ∧ z = 3001)) : SZI u R z (p + 1) := by
  have hc : w = cT b := by
    unfold cT
    unfold bT at hw
    omega
  have hc1 := cT_pos hb
  rcases h with h | h
  · rcases hz with ⟨_, q⟩ | ⟨_, q⟩
    · left
      rw [q, hr, h, hc, show (p + 1).toNat = p.toNat + 1 by omega, Int.mul_assoc]
      show R * (PRD u 0 p.toNat * cT b) = R * (PRD u 0 p.toNat * cT (u (0 + (p.toNat : Int))))
      rw [show (0 : Int) + (p.toNat : Int) = p by omega, hu]
    · exact Or.inr q
  · right
    have : 3001 ≤ r := by
      rw [hr, h, hc]
      omega
    omega
theorem FP_get {M : Mm} {f n t : Int} {u : Int → Int} (h : FP M) (hf : M 739 28 = f) (h0 : f = 0) (hn : M 739 44 = n) (ht : M 739 45 = t) (hu : ∀ k, M 757 k = u k) : 0 ≤ n ∧ FD u n.toNat 0 t := by
  have q := h (by omega)
  rw [hn, ht, show (fun k => M 757 k) = u from funext hu] at q
  exact q
theorem FFP_mk {M : Mm} {u : Int → Int} {n t : Int} (h : 0 ≤ n ∧ FD u n.toNat 0 t) (hn : M 739 4 = n) (hA : ∀ k : Int, 0 ≤ k → k < t → M 741 (0 + k) = u k) (ht : t ≤ 300) : FFP M t := by
  refine ⟨by omega, ?_, ht⟩
  rw [hn]
  exact FD_cong _ _ _ (fun k a b => by show u k = M 741 k; rw [← hA k a b, Int.zero_add]) h.2
def MRP (M : Mm) : Prop := ∀ k : Int, 0 ≤ k → k < 7 → 1 ≤ M 756 k
theorem MRP_up {M M2 : Mm} {a v : Int} (h : MRP M) (hv : 1 ≤ v) (e : M2 = mUp M 756 a v) : MRP M2 := by
  intro k h0 h1
  rw [e]
  by_cases q : k = a
  · rw [q, mUp_eq]
    exact hv
  · rw [mUp_ne (Or.inr q)]
    exact h k h0 h1
theorem FP_0 {M : Mm} (h1 : M 739 44 = 0) (h2 : M 739 45 = 0) : FP M := fun _ => by
  rw [h1, h2]
  exact ⟨Int.le_refl _, rfl⟩
theorem WS_0 {M : Mm} (h : M 739 13 = 0) : WS M := fun s a b => by omega
theorem QW_0 {M : Mm} (h : M 739 21 = 0) : QW M := fun s a b => by omega
def LRP (M : Mm) : Prop := M 739 28 = 0 → 0 ≤ M 739 42 ∧ M 739 42 ≤ 127
theorem LRP_vac {M : Mm} {v : Int} (h : M 739 28 = v) (h1 : 1 ≤ v) : LRP M := fun q => by omega
theorem e0z {M M2 : Mm} {A i v : Int} (e : M2 = mUp M A i v) : M2 = mUp M A (0 + i) v := by rw [Int.zero_add]; exact e
theorem PRD_cong {u v : Int → Int} {i : Int} : ∀ n : Nat, (∀ k : Nat, k < n → u (i + k) = v (i + k)) → PRD u i n = PRD v i n := by
  intro n
  induction n with
  | zero => intro _; rfl
  | succ n ih =>
    intro h
    show PRD u i n * cT (u (i + n)) = PRD v i n * cT (v (i + n))
    rw [ih (fun k hk => h k (by omega)), h n (by omega)]
theorem isl_sz {Mz M : Mm} {R N : Int} {u : Int → Int} (h : R * PRD (fun k => Mz 756 k) 0 N.toNat ≤ 3000) (hu : ∀ k, Mz 756 k = u k) (hA : ∀ k : Int, 0 ≤ k → k < 7 → M 740 k = u k) (hN : N ≤ 7) : R * PRD (fun k => M 740 k) 0 N.toNat ≤ 3000 := by
  rw [PRD_cong (u := fun k => M 740 k) (v := fun k => Mz 756 k) N.toNat (fun k hk => by show M 740 (0 + (k : Int)) = Mz 756 (0 + k); rw [hu, hA _ (by omega) (by omega)])]
  exact h
theorem QW_add {M M1 M2 : Mm} {q S v : Int} (h : QW M) (hq : M 739 21 = q) (hS : M 739 13 = S) (e1 : M1 = mUp M 754 q v) (e2 : M2 = mUp M1 739 21 (q + 1)) (hv : v < S) : QW M2 := by
  intro x h0 h1
  rw [e2, mUp_eq] at h1
  rw [e2, mUp_ne (Or.inl (by decide)), mUp_ne (Or.inr (by decide)), e1, mUp_ne (a' := 739) (Or.inl (by decide)), hS]
  by_cases y : x = q
  · rw [y, mUp_eq]
    exact hv
  · rw [mUp_ne (Or.inr y), ← hS]
    exact h x h0 (by omega)
def fg_TK : Nat := 2661491135803952643866374715440050560427398708452750633467904
def fg_GE : Nat := 1356938545752678801233835458837672998142877707788028355653430049585609310208
def fg_GH : Nat := 1356938545779006874150974755512152505063795315867752129503567327399187054592
def fg_FP : Nat := 452312848583883455720870480149335635413189595643360187279921502211683647488
def fg_SGP : Nat := 452312848583677767651205329394066264265369926830237345296717304728765071360
def fg_WS : Nat := 441711766194596082491605346489847682604267663415799063506572745459630080
def fg_QW : Nat := 56539106072908298571281229648931732293860433823621647921767395591437942784
def fg_FFP : Nat := 6901746346790563787621828071855381025981180630758070781678483589300224
def fg_CHP : Nat := 3618506239539304502268487022283454456221859937614711034886855396004317888512
def fg_VCE : Nat := 3618506239539304502268487022283454456221859937614711034886855396004317888512
def fg_CFP : Nat := 14134776518227074637051000468836447185797698505061230434689662065810866176
def fg_MRP : Nat := 226156424291633194186662080095093570025917938800079226639565593765455331328
def fg_LRP : Nat := 51425155967155382157724704849628807113918546978771602746900480
def fg_GEn : Nat := 1356938545752678798095284591144332616224982996184195147602252327353592053760
def fg_GHn : Nat := 1356938545779006871012423887818812123145900604263918921452389605167169798144
def fg_FPn : Nat := 452312848583883452582319612455995253495294884039526979228743779979666391040
def fg_SGPn : Nat := 452312848583677764512654461700725882347475215226404137245539582496747814912
def fg_LRPn : Nat := 51422017416287688817342786954917203280710495801049370729644032
theorem TK_sm {M M2 : Mm} (h : Sm fg_TK M M2) (q : TK M) : TK M2 := by
  unfold TK
  rw [h.at g_739_32 rfl, h.at g_739_34 rfl, h.at g_739_36 rfl, h.at g_739_37 rfl]
  exact q
theorem GE_sm {M M2 : Mm} {s : Int} {u0 : Int → Int} {b c : Int} (h : Sm fg_GE M M2) (q : GE M s u0 b c) : GE M2 s u0 b c := by
  unfold GE EI
  rw [h.at g_739_28 rfl, h.at g_739_45 rfl, h.at g_739_46 rfl, h.at g_739_47 rfl, h.row (a := 757) (gr_757 (by decide) (by decide)) rfl, h.row (a := 758) (gr_758 (by decide) (by decide)) rfl]
  exact q
theorem GH_sm {M M2 : Mm} {s : Int} {u0 : Int → Int} (h : Sm fg_GH M M2) (q : GH M s u0) : GH M2 s u0 := by
  unfold GH EI
  rw [h.at g_739_28 rfl, h.at g_739_45 rfl, h.at g_739_46 rfl, h.at g_739_47 rfl, h.at g_739_51 rfl, h.row (a := 757) (gr_757 (by decide) (by decide)) rfl, h.row (a := 758) (gr_758 (by decide) (by decide)) rfl]
  exact q
theorem FP_sm {M M2 : Mm} (h : Sm fg_FP M M2) (q : FP M) : FP M2 := by
  unfold FP
  rw [h.at g_739_28 rfl, h.at g_739_44 rfl, h.at g_739_45 rfl, h.row (a := 757) (gr_757 (by decide) (by decide)) rfl]
  exact q
theorem GE_mn {M M2 : Mm} {s : Int} {u0 : Int → Int} {b c : Int} (h : Sm fg_GEn M M2) (hk : M2 739 28 = 0 → M 739 28 = 0) (q : GE M s u0 b c) : GE M2 s u0 b c := by
  intro e
  have q2 := q (hk e)
  unfold EI at q2 ⊢
  rw [h.at g_739_45 rfl, h.at g_739_46 rfl, h.at g_739_47 rfl, h.row (a := 757) (gr_757 (by decide) (by decide)) rfl, h.row (a := 758) (gr_758 (by decide) (by decide)) rfl]
  exact q2
theorem GH_mn {M M2 : Mm} {s : Int} {u0 : Int → Int} (h : Sm fg_GHn M M2) (hk : M2 739 28 = 0 → M 739 28 = 0) (q : GH M s u0) : GH M2 s u0 := by
  intro e
  have q2 := q (hk e)
  unfold EI at q2 ⊢
  rw [h.at g_739_45 rfl, h.at g_739_46 rfl, h.at g_739_47 rfl, h.at g_739_51 rfl, h.row (a := 757) (gr_757 (by decide) (by decide)) rfl, h.row (a := 758) (gr_758 (by decide) (by decide)) rfl]
  exact q2
theorem FP_mn {M M2 : Mm} (h : Sm fg_FPn M M2) (hk : M2 739 28 = 0 → M 739 28 = 0) (q : FP M) : FP M2 := by
  intro e
  have q2 := q (hk e)
  rw [h.at g_739_44 rfl, h.at g_739_45 rfl, h.row (a := 757) (gr_757 (by decide) (by decide)) rfl]
  exact q2
theorem SGP_sm {M M2 : Mm} (h : Sm fg_SGP M M2) (q : SGP M) : SGP M2 := by
  unfold SGP
  rw [h.at g_739_28 rfl, h.at g_739_45 rfl, h.row (a := 757) (gr_757 (by decide) (by decide)) rfl]
  exact q
theorem SGP_mn {M M2 : Mm} (h : Sm fg_SGPn M M2) (hk : M2 739 28 = 0 → M 739 28 = 0) (q : SGP M) : SGP M2 := by
  intro e
  have q2 := q (hk e)
  rw [h.at g_739_45 rfl, h.row (a := 757) (gr_757 (by decide) (by decide)) rfl]
  exact q2
theorem WS_sm {M M2 : Mm} (h : Sm fg_WS M M2) (q : WS M) : WS M2 := by
  unfold WS
  rw [h.at g_739_13 rfl, h.row (a := 747) (gr_747 (by decide) (by decide)) rfl]
  exact q
theorem QW_sm {M M2 : Mm} (h : Sm fg_QW M M2) (q : QW M) : QW M2 := by
  intro x h0 h1
  rw [h.at g_739_21 rfl] at h1
  rw [h.at g_739_13 rfl, h.at (a := 754) (gr_754 (by decide) (by decide) x) rfl]
  exact q x h0 h1
theorem FFP_sm {M M2 : Mm} {fe : Int} (h : Sm fg_FFP M M2) (q : FFP M fe) : FFP M2 fe := by
  unfold FFP
  rw [h.at g_739_4 rfl, h.row (a := 741) (gr_741 (by decide) (by decide)) rfl]
  exact q
theorem VCE_sm {M M2 : Mm} {cv : Int} (h : Sm fg_VCE M M2) (q : VC M = cv) : VC M2 = cv := by
  unfold VC at q ⊢
  rw [h.at g_739_1 rfl, h.row (a := 740) (gr_740 (by decide) (by decide)) rfl, h.row (a := 760) (gr_760 (by decide) (by decide)) rfl]
  exact q
theorem CHP_sm {M M2 : Mm} (h : Sm fg_CHP M M2) (q : CHP M) : CHP M2 := by
  intro x h0 h1
  rw [h.at g_739_1 rfl] at h1
  rw [h.at (a := 740) (gr_740 (by decide) (by decide) x) rfl, h.at (a := 760) (gr_760 (by decide) (by decide) x) rfl]
  exact q x h0 h1
theorem MRP_sm {M M2 : Mm} (h : Sm fg_MRP M M2) (q : MRP M) : MRP M2 := by
  intro k h0 h1
  rw [h.at (a := 756) (gr_756 (by decide) (by decide) k) rfl]
  exact q k h0 h1
theorem LRP_sm {M M2 : Mm} (h : Sm fg_LRP M M2) (q : LRP M) : LRP M2 := by
  unfold LRP
  rw [h.at g_739_28 rfl, h.at g_739_42 rfl]
  exact q
theorem LRP_mn {M M2 : Mm} (h : Sm fg_LRPn M M2) (hk : M2 739 28 = 0 → M 739 28 = 0) (q : LRP M) : LRP M2 := by
  intro e
  have q2 := q (hk e)
  rw [h.at g_739_42 rfl]
  exact q2
theorem CFP_sm {M M2 : Mm} (h : Sm fg_CFP M M2) (q : CFP M) : CFP M2 := by
  unfold CFP AL at q ⊢
  rw [h.at g_739_7 rfl, h.at g_739_15 rfl, h.row (a := 752) (gr_752 (by decide) (by decide)) rfl]
  exact q
