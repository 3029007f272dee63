def fg_TXP : Nat := 281474977234944
def fg_TCP : Nat := 4222124650659840
def fg_TXQ : Nat := 113078212145816609647534510820908312684537815815372445524493685810796691456
def fg_TTP : Nat := 3201321885047207189556252605835909872212201276676657601576960
/-! ===== the class's tokens ===== -/
def TXP (T : Int → Int) (M : Mm) : Prop := ∀ k : Int, 0 ≤ k → k < M 9 1 → (0 ≤ M 1 k → T k = M 1 k) ∧ (M 1 k < 0 → -128 ≤ M 1 k ∧ T k = M 1 k + 256)
def TCP (T : Int → Int) (M : Mm) : Prop := M 9 4 = tt T (M 9 1) (M 9 3) ∧ M 9 2 = ee T (M 9 1) (M 9 3) ∧ 0 ≤ M 9 3 ∧ M 9 3 ≤ M 9 1
theorem TXP_sm {T : Int → Int} {M M2 : Mm} (h : Sm fg_TXP M M2) (p : TXP T M) : TXP T M2 := by
  intro k h0 h1
  rw [h.at g_9_1 rfl] at h1
  rw [h.at (ga_1 k) rfl]
  exact p k h0 h1
theorem TCP_sm {T : Int → Int} {M M2 : Mm} (h : Sm fg_TCP M M2) (p : TCP T M) : TCP T M2 := by
  unfold TCP
  rw [h.at g_9_1 rfl, h.at g_9_2 rfl, h.at g_9_3 rfl, h.at g_9_4 rfl]
  exact p
theorem tyF_T {t v : Int} (h : (0 ≤ v → t = v) ∧ (v < 0 → -128 ≤ v ∧ t = v + 256)) (hv : -128 ≤ v) : tyF v = tyF t := by
  by_cases q : 0 ≤ v
  · rw [h.1 q]
  · rw [(tyF_4 (c := v)).mpr ⟨by omega, by omega, by omega⟩, (tyF_4 (c := t)).mpr ⟨by have := h.2 (by omega); omega, by have := h.2 (by omega); omega, by have := h.2 (by omega); omega⟩]
theorem tt_lt (T : Int → Int) (n s : Int) : (tt T n s = 0 ∧ n ≤ s) ∨ (1 ≤ tt T n s ∧ tt T n s ≤ 4 ∧ s < n) := by
  unfold tt
  have := tyF_b (T s)
  split <;> omega
theorem TCP_0 {T : Int → Int} {M : Mm} {n s e0 : Int} (h1 : M 9 1 = n) (h3 : M 9 3 = s) (h4 : M 9 4 = 0) (h2 : M 9 2 = s) (hs : s = sk T n e0) (h0 : 0 ≤ e0) (hn : e0 ≤ n) (hq : n ≤ s) : TCP T M := by
  have hr := sk_r (T := T) hn
  unfold TCP
  rw [h1, h2, h3, h4]
  unfold tt ee
  rw [if_neg (by omega), if_neg (by omega)]
  exact ⟨rfl, rfl, by omega, by omega⟩
theorem TCP_1 {T : Int → Int} {M : Mm} {n s e0 z e : Int} (h1 : M 9 1 = n) (h3 : M 9 3 = s) (h4 : M 9 4 = z) (h2 : M 9 2 = e) (hs : s = sk T n e0) (h0 : 0 ≤ e0) (hn : e0 ≤ n) (hq : s < n) (hz : z = tyF (T s)) (he : (¬ (z = 1 ∨ z = 2) ∧ e = s + 1) ∨ ((z = 1 ∨ z = 2) ∧ e = en T n z (s + 1))) : TCP T M := by
  have hr := sk_r (T := T) hn
  unfold TCP
  rw [h1, h2, h3, h4]
  unfold tt ee
  rw [if_pos hq, if_pos hq, ← hz]
  refine ⟨rfl, ?_, by omega, by omega⟩
  rcases he with ⟨a, b⟩ | ⟨a, b⟩
  · rw [if_neg a, b]
  · rw [if_pos a, b]
theorem nx_of {T : Int → Int} {M : Mm} {n s e m : Int} (h : TCP T M) (h1 : M 9 1 = n) (h3 : M 9 3 = s) (h2 : M 9 2 = e) (hm : m = sk T n e) : m = nx T n s := by
  have q := h.2.1
  rw [h1, h2, h3] at q
  rw [hm, q]
  rfl
theorem sgI_c (T : Int → Int) (n s c : Int) : (sgI T n s c = 1 ∧ tt T n s = 3 ∧ T s = c) ∨ (sgI T n s c = 0 ∧ (tt T n s ≠ 3 ∨ T s ≠ c)) := by
  unfold sgI
  by_cases h : tt T n s = 3 ∧ T s = c
  · rw [if_pos h]; exact Or.inl ⟨rfl, h⟩
  · rw [if_neg h]; exact Or.inr ⟨rfl, by omega⟩
theorem nmI_c (T : Int → Int) (n s : Int) : (nmI T n s = 1 ∧ tt T n s = 1 ∧ ee T n s - s = 1) ∨ (nmI T n s = 0 ∧ (tt T n s ≠ 1 ∨ ee T n s - s ≠ 1)) := by
  unfold nmI
  by_cases h : tt T n s = 1 ∧ ee T n s - s = 1
  · rw [if_pos h]; exact Or.inl ⟨rfl, h⟩
  · rw [if_neg h]; exact Or.inr ⟨rfl, by omega⟩
theorem cbI_c (T : Int → Int) (n s : Int) : (cbI T n s = 1 ∧ (sgI T n s 40 = 1 ∨ nmI T n s = 1 ∨ kw T n s = 14 ∨ kw T n s = 18 ∨ kw T n s = 8 ∨ kw T n s = 19 ∨ kw T n s = 20 ∨ kw T n s = 21)) ∨ (cbI T n s = 0 ∧ sgI T n s 40 ≠ 1 ∧ nmI T n s ≠ 1 ∧ kw T n s ≠ 14 ∧ kw T n s ≠ 18 ∧ kw T n s ≠ 8 ∧ kw T n s ≠ 19 ∧ kw T n s ≠ 20 ∧ kw T n s ≠ 21) := by
  unfold cbI
  by_cases h : sgI T n s 40 = 1 ∨ nmI T n s = 1 ∨ kw T n s = 14 ∨ kw T n s = 18 ∨ kw T n s = 8 ∨ kw T n s = 19 ∨ kw T n s = 20 ∨ kw T n s = 21
  · rw [if_pos h]; exact Or.inl ⟨rfl, h⟩
  · rw [if_neg h]; exact Or.inr ⟨rfl, by omega⟩
theorem kdI_c (T : Int → Int) (n s : Int) : (0 ≤ kw T n s ∧ kw T n s ≤ 4 ∧ kdI T n s = kw T n s ∧ kdE T n s = 0 ∧ tt T n s = 1) ∨ ((kw T n s < 0 ∨ 4 < kw T n s) ∧ kdI T n s = -1 ∧ ((tt T n s = 1 ∧ kdE T n s = 3) ∨ (tt T n s ≠ 1 ∧ kdE T n s = 1))) := by
  unfold kdI kdE
  by_cases h : 0 ≤ kw T n s ∧ kw T n s ≤ 4
  · rw [if_pos h, if_pos h]
    exact Or.inl ⟨h.1, h.2, rfl, rfl, (kw_ty h.1).1⟩
  · rw [if_neg h, if_neg h]
    refine Or.inr ⟨by omega, rfl, ?_⟩
    by_cases h2 : tt T n s = 1
    · rw [if_pos h2]; exact Or.inl ⟨h2, rfl⟩
    · rw [if_neg h2]; exact Or.inr ⟨h2, rfl⟩
theorem naE_c (T : Int → Int) (n pp s : Int) : (nmI T n s = 1 ∧ T s - 97 < pp ∧ naE T n pp s = 0) ∨ (nmI T n s = 1 ∧ pp ≤ T s - 97 ∧ naE T n pp s = 4) ∨ (nmI T n s ≠ 1 ∧ naE T n pp s = 1) := by
  unfold naE
  by_cases h : nmI T n s = 1
  · rw [if_pos h]
    by_cases h2 : T s - 97 < pp
    · rw [if_pos h2]; exact Or.inl ⟨h, h2, rfl⟩
    · rw [if_neg h2]; exact Or.inr (Or.inl ⟨h, by omega, rfl⟩)
  · rw [if_neg h]; exact Or.inr (Or.inr ⟨h, rfl⟩)
theorem nuE_c (T : Int → Int) (n s l m : Int) : (tt T n s = 2 ∧ ee T n s - s ≤ 3 ∧ l ≤ vlI T n s ∧ vlI T n s ≤ m ∧ nuE T n s l m = 0) ∨ (tt T n s = 2 ∧ (3 < ee T n s - s ∨ vlI T n s < l ∨ m < vlI T n s) ∧ nuE T n s l m = 2) ∨ (tt T n s ≠ 2 ∧ nuE T n s l m = 1) := by
  unfold nuE
  by_cases h : tt T n s = 2
  · rw [if_pos h]
    by_cases h2 : ee T n s - s ≤ 3 ∧ l ≤ vlI T n s ∧ vlI T n s ≤ m
    · rw [if_pos h2]; exact Or.inl ⟨h, h2.1, h2.2.1, h2.2.2, rfl⟩
    · rw [if_neg h2]; exact Or.inr (Or.inl ⟨h, by omega, rfl⟩)
  · rw [if_neg h]; exact Or.inr (Or.inr ⟨h, rfl⟩)
theorem vlI_c (T : Int → Int) (n s : Int) : (ee T n s - s ≤ 3 ∧ vlI T n s = vl T s (ee T n s - s).toNat) ∨ (3 < ee T n s - s ∧ vlI T n s = -1) := by
  unfold vlI
  by_cases h : ee T n s - s ≤ 3
  · rw [if_pos h]; exact Or.inl ⟨h, rfl⟩
  · rw [if_neg h]; exact Or.inr ⟨by omega, rfl⟩
theorem vl_s {T : Int → Int} {s i : Int} (h : s ≤ i) : vl T s (i + 1 - s).toNat = 10 * vl T s (i - s).toNat + (T i - 48) := by
  rw [show (i + 1 - s).toNat = (i - s).toNat + 1 by omega]
  show 10 * vl T s (i - s).toNat + (T (s + ((i - s).toNat : Int)) - 48) = _
  rw [show s + ((i - s).toNat : Int) = i by omega]
theorem vl_b {T : Int → Int} {s : Int} : ∀ k : Nat, (∀ q : Int, s ≤ q → q < s + k → 48 ≤ T q ∧ T q ≤ 57) → 0 ≤ vl T s k ∧ (k ≤ 1 → vl T s k ≤ 9) ∧ (k ≤ 2 → vl T s k ≤ 99) ∧ (k ≤ 3 → vl T s k ≤ 999) := by
  intro k
  induction k with
  | zero => intro _; exact ⟨Int.le_refl _, fun _ => show (0 : Int) ≤ 9 by decide, fun _ => show (0 : Int) ≤ 99 by decide, fun _ => show (0 : Int) ≤ 999 by decide⟩
  | succ k ih =>
    intro h
    have h1 := ih (fun q a b => h q a (by omega))
    have h2 := h (s + k) (by omega) (by omega)
    show 0 ≤ 10 * vl T s k + (T (s + k) - 48) ∧ (k + 1 ≤ 1 → 10 * vl T s k + (T (s + k) - 48) ≤ 9) ∧ (k + 1 ≤ 2 → 10 * vl T s k + (T (s + k) - 48) ≤ 99) ∧ (k + 1 ≤ 3 → 10 * vl T s k + (T (s + k) - 48) ≤ 999)
    refine ⟨by omega, fun q => ?_, fun q => by have := h1.2.1 (by omega); omega, fun q => by have := h1.2.2.1 (by omega); omega⟩
    have e0 : k = 0 := by omega
    subst e0
    have : vl T s 0 = 0 := rfl
    omega
theorem dig_of {T : Int → Int} {M : Mm} {n s : Int} (h : TCP T M) (h1 : M 9 1 = n) (h3 : M 9 3 = s) (ht : tt T n s = 2) : ∀ q : Int, s ≤ q → q < ee T n s → 48 ≤ T q ∧ T q ≤ 57 := by
  intro q a b
  have hs : s ≤ n := by have := h.2.2.2; rw [h1, h3] at this; exact this
  have := (ee_r (T := T) hs).2.2.2 (Or.inr ht) q a b
  rw [ht] at this
  exact tyF_2.mp this
theorem let_of {T : Int → Int} {M : Mm} {n s : Int} (h : TCP T M) (h1 : M 9 1 = n) (h3 : M 9 3 = s) (ht : tt T n s = 1) : ∀ q : Int, s ≤ q → q < ee T n s → 97 ≤ T q ∧ T q ≤ 122 := by
  intro q a b
  have hs : s ≤ n := by have := h.2.2.2; rw [h1, h3] at this; exact this
  have := (ee_r (T := T) hs).2.2.2 (Or.inl ht) q a b
  rw [ht] at this
  exact tyF_1.mp this
/-- which known word a text of the class is -/
def wixL : List Int := [15, 16, 17, 18, 8, 20, 21, 19, 14, 6, 9, 11, 10, 7, 12, 13, 5, 0, 1, 2, 3, 4]
def wix (t : Int) : Int := wixL.getD (t - 4111).toNat (-2)
def wcS (l : List Nat) : Nat → Int
  | 0 => 0
  | k + 1 => 32 * wcS l k + ((l.getD k 0 : Int) - 96)
theorem ck_wix : (List.range 22).all (fun j => decide (kwL[(wix (4111 + j)).toNat]? = some (wcS (bytN.getD (14 + j) []) (lenS.getD (14 + j) 0))) && decide (0 ≤ wix (4111 + j) ∧ wix (4111 + j) < 22 ∧ lenS.getD (14 + j) 0 ≤ 6) && (List.range (lenS.getD (14 + j) 0)).all fun i => decide (97 ≤ (bytN.getD (14 + j) []).getD i 0 ∧ (bytN.getD (14 + j) []).getD i 0 ≤ 122)) = true := by decide +kernel
theorem wix_nn {t : Int} (h : 4111 ≤ t) (h2 : t ≤ 4132) : 0 ≤ wix t := by
  obtain ⟨j, rfl⟩ : ∃ j : Nat, t = 4111 + j := ⟨(t - 4111).toNat, by omega⟩
  have ck := List.all_eq_true.mp ck_wix j (List.mem_range.mpr (by omega))
  simp only [Bool.and_eq_true, decide_eq_true_eq] at ck
  exact ck.1.2.1
theorem wcS_eq (l : List Nat) : ∀ k : Nat, wcS l k = wc (fun q => (l.getD q.toNat 0 : Int)) 0 k := by
  intro k
  induction k with
  | zero => rfl
  | succ k ih =>
    show 32 * wcS l k + ((l.getD k 0 : Int) - 96) = 32 * wc (fun q => (l.getD q.toNat 0 : Int)) 0 k + ((l.getD ((0 : Int) + (k : Int)).toNat 0 : Int) - 96)
    rw [ih, show ((0 : Int) + (k : Int)).toNat = k by omega]
theorem wc_cg {T U : Int → Int} {s t : Int} : ∀ k : Nat, (∀ i : Nat, i < k → T (s + i) = U (t + i)) → wc T s k = wc U t k := by
  intro k
  induction k with
  | zero => intro _; rfl
  | succ k ih =>
    intro h
    show 32 * wc T s k + (T (s + k) - 96) = 32 * wc U t k + (U (t + k) - 96)
    rw [ih (fun i hi => h i (by omega)), h k (by omega)]
theorem WI_kw {T : Int → Int} {M : Mm} {n s t : Int} (hc : TCP T M) (hx : TXP T M) (h1 : M 9 1 = n) (h3 : M 9 3 = s) (ht : 4111 ≤ t) (ht2 : t ≤ 4132) : WI M t ↔ kw T n s = wix t := by
  obtain ⟨j, rfl⟩ : ∃ j : Nat, t = 4111 + j := ⟨(t - 4111).toNat, by omega⟩
  have hj : j < 22 := by omega
  have ck := List.all_eq_true.mp ck_wix j (List.mem_range.mpr hj)
  simp only [Bool.and_eq_true, decide_eq_true_eq] at ck
  obtain ⟨⟨ck1, ck2, ck3, ck4⟩, ck5⟩ := ck
  have eL : ls (4111 + (j : Int)) = ((lenS.getD (14 + j) 0 : Nat) : Int) := by
    unfold ls
    rw [show (4111 + (j : Int)).toNat - 4097 = 14 + j by omega]
  have eC : ∀ i : Nat, chf (4111 + (j : Int)) i = (((bytN.getD (14 + j) []).getD i 0 : Nat) : Int) := fun i => by
    unfold chf
    rw [show (4111 + (j : Int)).toNat - 4097 = 14 + j by omega, Int.toNat_natCast]
  have c1 := hc.1
  have c2 := hc.2.1
  have c3 := hc.2.2.1
  have c4 := hc.2.2.2
  rw [h1, h3] at c1 c2 c4
  rw [h3] at c3
  have hU : ∀ i : Nat, i < lenS.getD (14 + j) 0 → 97 ≤ (((bytN.getD (14 + j) []).getD i 0 : Nat) : Int) ∧ (((bytN.getD (14 + j) []).getD i 0 : Nat) : Int) ≤ 122 := fun i hi => by
    have := of_decide_eq_true (List.all_eq_true.mp ck5 i (List.mem_range.mpr hi))
    omega
  rw [wcS_eq] at ck1
  constructor
  · rintro ⟨w1, w2, w3⟩
    rw [h3] at w2 w3
    rw [eL] at w2 w3
    rw [w1] at c1
    rw [c2] at w2
    have hq := (kw_iff (T := T) (n := n) (s := s) (k := (wix (4111 + (j : Int))).toNat) (by omega) c1.symm (by omega)).mpr (by
      rw [ck1, show (ee T n s - s).toNat = lenS.getD (14 + j) 0 by omega]
      refine congrArg some (wc_cg _ (fun i hi => ?_))
      have a1 := w3 (i : Int) (by omega) (by omega)
      rw [eC i] at a1
      have a2 := hU i hi
      have a3 := (hx (s + i) (by omega) (by have := (ee_r (T := T) c4).2.1; rw [h1]; omega)).1 (by omega)
      rw [a3, a1]
      show (((bytN.getD (14 + j) []).getD ((0 : Int) + (i : Int)).toNat 0 : Nat) : Int) = _
      rw [show ((0 : Int) + (i : Int)).toNat = i by omega])
    omega
  · intro hk
    have k1 := kw_ty (T := T) (n := n) (s := s) (by omega)
    have k2 := (kw_iff (T := T) (n := n) (s := s) (k := (wix (4111 + (j : Int))).toNat) (by omega) k1.1 k1.2).mp (by omega)
    rw [ck1] at k2
    have k3 := Option.some.inj k2
    have hl := let_of hc h1 h3 k1.1
    have hr := ee_r (T := T) c4
    obtain ⟨e1, e2⟩ := wc_inj _ _ (fun i hi => by
      have := hU i hi
      show 97 ≤ (((bytN.getD (14 + j) []).getD ((0 : Int) + (i : Int)).toNat 0 : Nat) : Int) ∧ (((bytN.getD (14 + j) []).getD ((0 : Int) + (i : Int)).toNat 0 : Nat) : Int) ≤ 122
      rw [show ((0 : Int) + (i : Int)).toNat = i by omega]
      exact this) (fun i hi => hl (s + i) (by omega) (by omega)) k3
    refine ⟨c1.trans k1.1, by rw [h3, c2, eL]; omega, fun i q0 q1 => ?_⟩
    rw [eL] at q1
    obtain ⟨i', rfl⟩ : ∃ i' : Nat, i = i' := ⟨i.toNat, by omega⟩
    have a1 := e2 i' (by omega)
    have a1' : (((bytN.getD (14 + j) []).getD ((0 : Int) + (i' : Int)).toNat 0 : Nat) : Int) = T (s + i') := a1
    rw [show ((0 : Int) + (i' : Int)).toNat = i' by omega] at a1'
    have a2 := hl (s + i') (by omega) (by omega)
    have a3 := hx (s + i') (by omega) (by rw [h1]; omega)
    rw [h3, eC i', a1']
    omega
theorem kw_of {T : Int → Int} {M : Mm} {n s t z : Int} (hc : TCP T M) (hx : TXP T M) (h1 : M 9 1 = n) (h3 : M 9 3 = s) (ht : 4111 ≤ t) (ht2 : t ≤ 4132) (h : z = 1 ↔ WI M t) : z = 1 ↔ kw T n s = wix t := h.trans (WI_kw hc hx h1 h3 ht ht2)
/-! ===== the model's tokens ===== -/
def TXQ (T : Int → Int) (M : Mm) : Prop := ∀ k : Int, 0 ≤ k → k < M 739 30 → M 755 k = T k
def TTP (T : Int → Int) (M : Mm) : Prop := M 739 32 = tt T (M 739 30) (M 739 33) ∧ M 739 31 = ee T (M 739 30) (M 739 33) ∧ M 739 34 = M 739 31 - M 739 33 ∧ (M 739 33 < M 739 30 → M 739 36 = T (M 739 33)) ∧ (M 739 32 = 1 → M 739 34 ≤ 6 → M 739 37 = wc T (M 739 33) (M 739 34).toNat) ∧ (M 739 32 = 2 → M 739 34 ≤ 3 → M 739 35 = vl T (M 739 33) (M 739 34).toNat) ∧ 0 ≤ M 739 33 ∧ M 739 33 ≤ M 739 30
theorem TXQ_sm {T : Int → Int} {M M2 : Mm} (h : Sm fg_TXQ M M2) (p : TXQ T M) : TXQ T M2 := by
  intro k h0 h1
  rw [h.at g_739_30 rfl] at h1
  rw [h.at (a := 755) (gr_755 (by decide) (by decide) k) rfl]
  exact p k h0 h1
theorem TTP_sm {T : Int → Int} {M M2 : Mm} (h : Sm fg_TTP M M2) (p : TTP T M) : TTP T M2 := by
  unfold TTP
  rw [h.at g_739_30 rfl, h.at g_739_31 rfl, h.at g_739_32 rfl, h.at g_739_33 rfl, h.at g_739_34 rfl, h.at g_739_35 rfl, h.at g_739_36 rfl, h.at g_739_37 rfl]
  exact p
theorem bt_T {T : Int → Int} {M : Mm} {n k : Int} (h : TXQ T M) (e : M 739 30 = n) (hk : 0 ≤ k) : (k < n ∧ btF M k = T k) ∨ (n ≤ k ∧ btF M k = 0) := by
  unfold btF
  rw [e]
  by_cases q : k < n
  · rw [if_pos q]
    exact Or.inl ⟨q, h k hk (by rw [e]; exact q)⟩
  · rw [if_neg q]
    exact Or.inr ⟨by omega, rfl⟩
theorem wc_s {T : Int → Int} {s i : Int} (h : s ≤ i) : wc T s (i + 1 - s).toNat = 32 * wc T s (i - s).toNat + (T i - 96) := by
  rw [show (i + 1 - s).toNat = (i - s).toNat + 1 by omega]
  show 32 * wc T s (i - s).toNat + (T (s + ((i - s).toNat : Int)) - 96) = _
  rw [show s + ((i - s).toNat : Int) = i by omega]
theorem wc_ub {T : Int → Int} {s : Int} : ∀ k : Nat, (∀ q : Int, s ≤ q → q < s + k → 97 ≤ T q ∧ T q ≤ 122) → 0 ≤ wc T s k ∧ (k ≤ 1 → wc T s k < 32) ∧ (k ≤ 2 → wc T s k < 1024) ∧ (k ≤ 3 → wc T s k < 32768) ∧ (k ≤ 4 → wc T s k < 1048576) ∧ (k ≤ 5 → wc T s k < 33554432) ∧ (k ≤ 6 → wc T s k < 1073741824) := by
  intro k
  induction k with
  | zero =>
    intro _
    have : wc T s 0 = 0 := rfl
    omega
  | succ k ih =>
    intro h
    have h1 := ih (fun q a b => h q a (by omega))
    have h2 := h (s + k) (by omega) (by omega)
    have e : wc T s (k + 1) = 32 * wc T s k + (T (s + k) - 96) := rfl
    rw [e]
    refine ⟨by omega, fun q => ?_, fun q => by have := h1.2.1 (by omega); omega, fun q => by have := h1.2.2.1 (by omega); omega, fun q => by have := h1.2.2.2.1 (by omega); omega, fun q => by have := h1.2.2.2.2.1 (by omega); omega, fun q => by have := h1.2.2.2.2.2.1 (by omega); omega⟩
    have e0 : k = 0 := by omega
    subst e0
    have : wc T s 0 = 0 := rfl
    omega
/-- all of one type up to here -/
theorem en_all {T : Int → Int} {n z s e : Int} (hs : s ≤ e) (he : e ≤ n) (hi : en T n z e = en T n z s) : ∀ q, s ≤ q → q < e → tyF (T q) = z := by
  intro q a b
  have h1 := en_r (T := T) (n := n) (c := z) (p := e) he
  have h2 := en_r (T := T) (n := n) (c := z) (p := s) (by omega)
  exact h2.2.2 q a (by omega)
theorem ee_w {T : Int → Int} {n s e z : Int} (hs : s < n) (hz : tyF (T s) = z) (hz2 : z = 1 ∨ z = 2) (hi : en T n z e = en T n z s) (hx : n ≤ e ∨ (e < n ∧ tyF (T e) ≠ z)) : e = ee T n s := by
  have h1 : en T n z e = e := by
    rcases hx with q | ⟨q, q2⟩
    · exact en_e q
    · exact en_n q q2
  unfold ee
  rw [if_pos hs, hz, if_pos hz2, en_b hs hz, ← hi, h1]
theorem ee_1 {T : Int → Int} {n s : Int} (hs : s < n) (h1 : tyF (T s) ≠ 1) (h2 : tyF (T s) ≠ 2) : s + 1 = ee T n s := by
  unfold ee
  rw [if_pos hs, if_neg (by omega)]
theorem ee_0 {T : Int → Int} {n s : Int} (hs : n ≤ s) : s = ee T n s := by
  unfold ee
  rw [if_neg (by omega)]
theorem tt_1 {T : Int → Int} {n s z : Int} (hs : s < n) (h : tyF (T s) = z) : z = tt T n s := by
  unfold tt
  rw [if_pos hs, h]
theorem tt_0 {T : Int → Int} {n s : Int} (hs : n ≤ s) : 0 = tt T n s := by
  unfold tt
  rw [if_neg (by omega)]
theorem TTP_mk {T : Int → Int} {M : Mm} {n s e z l vv c w : Int} (h30 : M 739 30 = n) (h33 : M 739 33 = s) (h31 : M 739 31 = e) (h32 : M 739 32 = z) (h34 : M 739 34 = l) (h35 : M 739 35 = vv) (h36 : M 739 36 = c) (h37 : M 739 37 = w) (hz : z = tt T n s) (he : e = ee T n s) (hl : l = e - s) (hc : s < n → c = T s) (hw : z = 1 → l ≤ 6 → w = wc T s l.toNat) (hv : z = 2 → l ≤ 3 → vv = vl T s l.toNat) (h0 : 0 ≤ s) (hn : s ≤ n) : TTP T M := by
  unfold TTP
  rw [h30, h31, h32, h33, h34, h35, h36, h37]
  exact ⟨hz, he, hl, hc, hw, hv, h0, hn⟩
theorem nx_ofm {T : Int → Int} {M : Mm} {n s e m : Int} (h : TTP T M) (h1 : M 739 30 = n) (h3 : M 739 33 = s) (h2 : M 739 31 = e) (hm : m = sk T n e) : m = nx T n s := by
  have q := h.2.1
  rw [h1, h2, h3] at q
  rw [hm, q]
  rfl
theorem TT_w {T : Int → Int} {M : Mm} {s l : Int} (h : TTP T M) (h3 : M 739 33 = s) (h4 : M 739 34 = l) (h2 : M 739 32 = 1) (hl : l ≤ 6) : M 739 37 = wc T s l.toNat := by
  have := h.2.2.2.2.1 h2 (by rw [h4]; exact hl)
  rw [h3, h4] at this
  exact this
theorem kw_no {T : Int → Int} {n s : Int} (h : ¬ (tt T n s = 1 ∧ ee T n s - s ≤ 6)) : -1 = kw T n s := by
  unfold kw
  rw [if_neg h]
theorem kwL_get {j : Nat} (h : j < 22) : kwL[j]? = some (kwL.getD j 0) := by
  have h2 : j < kwL.length := h
  rw [List.getD_eq_getElem?_getD, List.getElem?_eq_getElem h2]
  rfl
theorem kw_hit {T : Int → Int} {n s k l : Int} (h1 : tt T n s = 1) (h2 : l = ee T n s - s) (h3 : l ≤ 6) (hk : 0 ≤ k ∧ k < 22) (hx : kwL.getD k.toNat 0 = wc T s l.toNat) : k = kw T n s := by
  subst h2
  have h := (kw_iff (T := T) (n := n) (s := s) (k := k.toNat) (by omega) h1 h3).mpr (by rw [kwL_get (by omega), hx])
  omega
theorem kw_mis {T : Int → Int} {n s l : Int} (h1 : tt T n s = 1) (h2 : l = ee T n s - s) (h3 : l ≤ 6) (hx : ∀ j : Nat, (j : Int) < 22 → kwL.getD j 0 ≠ wc T s l.toNat) : -1 = kw T n s := by
  subst h2
  unfold kw
  rw [if_pos ⟨h1, h3⟩, ixN_no]
  intro i q
  have hi : i < 22 := (List.getElem?_eq_some_iff.mp q).1
  rw [kwL_get hi] at q
  exact hx i (by omega) (Option.some.inj q)
