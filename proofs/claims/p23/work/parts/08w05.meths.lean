/-! ===== written by program (wip/layer2/all.py): contracts of methods ===== -/
def bcF_g (p0 : Int) : Int :=
  let v1 : Int := p0 % 4294967296 / pw 1
  let v5 : Int := ((Int.toNat (v1) &&& Int.toNat (1431655765) : Nat) : Int)
  let v10 : Int := ((cd ((p0 - v5)) &&& Int.toNat (858993459) : Nat) : Int)
  let v14 : Int := (p0 - v5) % 4294967296 / pw 2
  let v18 : Int := ((Int.toNat (v14) &&& Int.toNat (858993459) : Nat) : Int)
  let v23 : Int := (v10 + v18) % 4294967296 / pw 4
  let v27 : Int := (((v10 + v18) + v23) + 2147483648) % 4294967296 - 2147483648
  let v31 : Int := ((cd (v27) &&& Int.toNat (252645135) : Nat) : Int)
  let v35 : Int := v31 % 4294967296 / pw 8
  let v39 : Int := ((v31 + v35) + 2147483648) % 4294967296 - 2147483648
  let v43 : Int := v39 % 4294967296 / pw 16
  let v47 : Int := ((v39 + v43) + 2147483648) % 4294967296 - 2147483648
  (v47 % 64)
theorem bcF_ex : ∃ f : Int → Int, ∀ p0, f p0 = bcF_g p0 := ⟨bcF_g, fun _ => rfl⟩
noncomputable def bcF : Int → Int := Classical.choose bcF_ex
theorem bcF_eq (p0 : Int) : bcF p0 = bcF_g p0 := Classical.choose_spec bcF_ex p0
theorem bcF_nn (p0 : Int) : 0 ≤ bcF p0 := by
  rw [bcF_eq]
  unfold bcF_g
  exact Int.emod_nonneg _ (by decide)
theorem bcF_31 : (List.range 32).all (fun x => decide (x = 0 ∨ 1 ≤ bcF_g (x : Int)) && decide (bcF_g (x : Int) ≤ 5)) = true := by decide +kernel
theorem bcF_a : (List.range 32).all (fun x => (List.range 5).all fun k => decide (x / 2 ^ k % 2 = 0 ∨ bcF_g ((x &&& (2 ^ k - 1) : Nat) : Int) + 1 ≤ bcF_g (x : Int))) = true := by decide +kernel
theorem bc_rg {x : Int} (h : 1 ≤ x ∧ x ≤ 31) : 1 ≤ bcF x ∧ bcF x ≤ 5 := by
  obtain ⟨n, rfl⟩ := Int.eq_ofNat_of_zero_le (show 0 ≤ x by omega)
  have h1 := List.all_eq_true.mp bcF_31 n (List.mem_range.mpr (by omega))
  simp only [Bool.and_eq_true, decide_eq_true_eq] at h1
  rw [bcF_eq]
  refine ⟨?_, h1.2⟩
  rcases h1.1 with q | q
  · omega
  · exact q
theorem bc_hd {x k r : Int} (h : 1 ≤ x ∧ x ≤ 31) (hk : 0 ≤ k ∧ k ≤ 4) (hb : x / pw k % 2 = 1) (hr : r = ((x.toNat &&& (pw k - 1).toNat : Nat) : Int)) : bcF r + 1 ≤ bcF x := by
  obtain ⟨n, rfl⟩ := Int.eq_ofNat_of_zero_le (show 0 ≤ x by omega)
  obtain ⟨j, rfl⟩ := Int.eq_ofNat_of_zero_le hk.1
  have h1 := of_decide_eq_true (List.all_eq_true.mp (List.all_eq_true.mp bcF_a n (List.mem_range.mpr (by omega))) j (List.mem_range.mpr (by omega)))
  have e1 : (pw (j : Int) - 1).toNat = 2 ^ j - 1 := by
    rw [pw_nat]
    have := Nat.two_pow_pos j
    omega
  rw [hr, e1, Int.toNat_natCast, bcF_eq, bcF_eq]
  rcases h1 with q | q
  · rw [pw_nat] at hb
    have h3 : (((n / 2 ^ j % 2 : Nat)) : Int) = 1 := by
      rw [Int.natCast_emod, Int.natCast_ediv]
      exact hb
    rw [q] at h3
    cases h3
  · exact q
noncomputable def PB (u : Int → Int) : Nat → Int
  | 0 => 1
  | n + 1 => PB u n * bcF (u n)
noncomputable def PS (u : Int → Int) : Nat → Int
  | 0 => 1
  | n + 1 => PS u n * (bcF (u n) + u n / 4 % 2)
theorem pb_succ {u : Int → Int} {p : Int} (h : 0 ≤ p) : PB u (p + 1).toNat = PB u p.toNat * bcF (u p) := by
  rw [toNat_succ h]
  show PB u p.toNat * bcF (u (p.toNat : Int)) = _
  rw [Int.toNat_of_nonneg h]
theorem ps_succ {u : Int → Int} {p : Int} (h : 0 ≤ p) : PS u (p + 1).toNat = PS u p.toNat * (bcF (u p) + u p / 4 % 2) := by
  rw [toNat_succ h]
  show PS u p.toNat * (bcF (u (p.toNat : Int)) + u (p.toNat : Int) / 4 % 2) = _
  rw [Int.toNat_of_nonneg h]
theorem pb_rg {u : Int → Int} (hu : ∀ k : Int, 0 ≤ k → k < 7 → 1 ≤ u k ∧ u k ≤ 31) : ∀ n : Nat, n ≤ 7 → 1 ≤ PB u n ∧ PB u n ≤ PS u n ∧ PS u n ≤ 6 ^ n := by
  intro n
  induction n with
  | zero => intro _; exact ⟨Int.le_refl _, Int.le_refl _, Int.le_refl _⟩
  | succ n ih =>
    intro hn
    obtain ⟨h1, h2, h3⟩ := ih (by omega)
    have h4 := hu n (by omega) (by omega)
    have h5 := bc_rg h4
    show 1 ≤ PB u n * bcF (u n) ∧ PB u n * bcF (u n) ≤ PS u n * (bcF (u n) + u n / 4 % 2) ∧ PS u n * (bcF (u n) + u n / 4 % 2) ≤ 6 ^ (n + 1)
    have h6 : 0 ≤ u (n : Int) / 4 % 2 ∧ u (n : Int) / 4 % 2 ≤ 1 := by omega
    generalize u (n : Int) / 4 % 2 = t at h6
    generalize bcF (u (n : Int)) = b at h5
    refine ⟨?_, ?_, ?_⟩
    · have := Int.mul_le_mul h1 h5.1 (by decide) (by omega)
      omega
    · exact Int.mul_le_mul h2 (by omega) (by omega) (by omega)
    · rw [Int.pow_succ]
      exact Int.mul_le_mul h3 (by omega) (by omega) (by omega)
theorem pb_mono {u : Int → Int} (hu : ∀ k : Int, 0 ≤ k → k < 7 → 1 ≤ u k ∧ u k ≤ 31) {p n : Int} (hpn : p.toNat ≤ n.toNat) (hn : n ≤ 7) : PB u p.toNat ≤ PB u n.toNat := by
  have key : ∀ k m : Nat, k + m ≤ 7 → PB u k ≤ PB u (k + m) := by
    intro k m
    induction m with
    | zero => intro _; exact Int.le_refl _
    | succ m ih =>
      intro h
      have h1 := ih (by omega)
      have h2 := (pb_rg hu (k + m) (by omega)).1
      have h5 := (bc_rg (hu ((k + m : Nat) : Int) (by omega) (by omega))).1
      show PB u k ≤ PB u (k + m) * bcF (u ((k + m : Nat) : Int))
      have h6 := Int.mul_le_mul (Int.le_refl (PB u (k + m))) h5 (by decide) (by omega)
      omega
  have := key p.toNat (n.toNat - p.toNat) (by omega)
  rw [show p.toNat + (n.toNat - p.toNat) = n.toNat by omega] at this
  exact this
noncomputable def SZk (M : Mm) (P A : Int) : Int := Rf M P * PS (fun k => M A k) (M P 1).toNat
def PBok (M : Mm) : Prop := PB (fun k => M 3 k) (M 2 1).toNat ≤ 3000
theorem PBok_eq {M M2 : Mm} (h2 : M2 2 1 = M 2 1) (h3 : ∀ k, M2 3 k = M 3 k) (h : PBok M) : PBok M2 := by
  unfold PBok
  rw [h2, show (fun k => M2 3 k) = fun k => M 3 k from funext h3]
  exact h
theorem SZk_eq {M M2 : Mm} {P A P2 A2 : Int} (hf : ∀ i, 1 ≤ i → i ≤ 6 → M2 P2 i = M P i) (h3 : ∀ k, 0 ≤ k → k < 7 → M2 A2 k = M A k) (hn : M P 1 ≤ 7) : SZk M2 P2 A2 = SZk M P A := by
  have hps : ∀ n : Nat, n ≤ 7 → PS (fun k => M2 A2 k) n = PS (fun k => M A k) n := by
    intro n
    induction n with
    | zero => intro _; rfl
    | succ n ih =>
      intro h
      show PS (fun k => M2 A2 k) n * (bcF (M2 A2 n) + M2 A2 n / 4 % 2) = PS (fun k => M A k) n * (bcF (M A n) + M A n / 4 % 2)
      rw [ih (by omega), h3 n (by omega) (by omega)]
  unfold SZk Rf lD lW eD
  rw [hf 1 (by decide) (by decide), hf 2 (by decide) (by decide), hf 3 (by decide) (by decide), hf 5 (by decide) (by decide), hf 6 (by decide) (by decide), hps _ (by omega)]
theorem PBok_of {M : Mm} {z : Int} (hu : ∀ k : Int, 0 ≤ k → k < 7 → 1 ≤ M 3 k ∧ M 3 k ≤ 31) (hn : M 2 1 ≤ 7) (hz : z = SZk M 2 3) (h1 : 1 ≤ z) (h2 : z ≤ 3000) : PBok M := by
  have h3 := pb_rg (u := fun k => M 3 k) hu (M 2 1).toNat (by omega)
  unfold SZk at hz
  unfold PBok
  generalize PB (fun k => M 3 k) (M 2 1).toNat = pb at h3
  generalize PS (fun k => M 3 k) (M 2 1).toNat = ps at h3 hz
  have h4 : 1 ≤ Rf M 2 := by
    refine Int.not_lt.mp (fun q => ?_)
    have : Rf M 2 * ps ≤ 0 * ps := Int.mul_le_mul_of_nonneg_right (by omega) (by omega)
    omega
  have h5 : 1 * ps ≤ Rf M 2 * ps := Int.mul_le_mul_of_nonneg_right h4 (by omega)
  omega
theorem rk_back {M : Mm} {n p b a mv cv kv sv av r : Int} (hWC : WC M) (hp : 0 ≤ p) (hpp : p < M 2 1) (hmv : M 3 p = mv) (hcv : M 15 p = cv) (hk : kv = if cv ≤ 2 then cv else cv - 1) (hs : sv = pw kv) (hav : av = ((mv.toNat &&& (sv - 1).toNat : Nat) : Int)) (hb : b = bcF mv) (ha : a = bcF av) (hr : r = n * b) (hm : 1 ≤ mv ∧ mv ≤ 31) (hk2 : 0 ≤ kv ∧ kv ≤ 4) (h : 0 ≤ n ∧ n + 1 ≤ PB (fun k => M 3 k) p.toNat) : 0 ≤ r + a ∧ r + a + 1 ≤ PB (fun k => M 3 k) (p + 1).toNat := by
  have h1 := hWC p hp hpp
  rw [hmv, hcv] at h1
  have h2 : kf cv = kv := hk.symm
  rw [h2] at h1
  have h3 : bcF av + 1 ≤ bcF mv := bc_hd hm hk2 h1 (by rw [hav, hs])
  have h4 := bcF_nn av
  rw [pb_succ hp, hr]
  show 0 ≤ n * b + a ∧ n * b + a + 1 ≤ PB (fun k => M 3 k) p.toNat * bcF (M 3 p)
  rw [hmv, ← hb]
  rw [← ha] at h3 h4
  rw [← hb] at h3
  have h5 : 0 ≤ n * b := Int.mul_nonneg h.1 (by omega)
  have h6 := Int.mul_le_mul_of_nonneg_right h.2 (show 0 ≤ b by omega)
  rw [Int.add_mul, Int.one_mul] at h6
  omega
theorem sz_back {u : Int → Int} {R v w p r : Int} (hp : 0 ≤ p) (hv : v = R * PS u p.toNat) (hw : w = bcF (u p) + u p / 4 % 2) (hr : r = v * w) : r = R * PS u (p + 1).toNat := by
  rw [ps_succ hp, hr, hv, hw, Int.mul_assoc]
theorem bc_rg0 {x : Int} (h : 0 ≤ x ∧ x ≤ 31) : 0 ≤ bcF x ∧ bcF x ≤ 5 := by
  obtain ⟨n, rfl⟩ := Int.eq_ofNat_of_zero_le h.1
  have h1 := List.all_eq_true.mp bcF_31 n (List.mem_range.mpr (by omega))
  simp only [Bool.and_eq_true, decide_eq_true_eq] at h1
  have h2 := bcF_nn (n : Int)
  rw [bcF_eq] at h2 ⊢
  exact ⟨h2, h1.2⟩
theorem ps_rg {u : Int → Int} (hu : ∀ k : Int, 0 ≤ k → k < 7 → 0 ≤ u k ∧ u k ≤ 31) : ∀ n : Nat, n ≤ 7 → 0 ≤ PS u n ∧ PS u n ≤ 6 ^ n := by
  intro n
  induction n with
  | zero => intro _; exact ⟨show (0 : Int) ≤ 1 by decide, Int.le_refl _⟩
  | succ n ih =>
    intro hn
    obtain ⟨h1, h3⟩ := ih (by omega)
    have h4 := hu n (by omega) (by omega)
    have h5 := bc_rg0 h4
    show 0 ≤ PS u n * (bcF (u n) + u n / 4 % 2) ∧ PS u n * (bcF (u n) + u n / 4 % 2) ≤ 6 ^ (n + 1)
    have h6 : 0 ≤ u (n : Int) / 4 % 2 ∧ u (n : Int) / 4 % 2 ≤ 1 := by omega
    generalize u (n : Int) / 4 % 2 = t at h6
    generalize bcF (u (n : Int)) = b at h5
    refine ⟨Int.mul_nonneg h1 (by omega), ?_⟩
    rw [Int.pow_succ]
    exact Int.mul_le_mul h3 (by omega) (by omega) (by omega)
theorem sz_rg {u : Int → Int} (hu : ∀ k : Int, 0 ≤ k → k < 7 → 0 ≤ u k ∧ u k ≤ 31) {R v p : Int} (hp : 0 ≤ p) (hp7 : p ≤ 7) (hR : -100 ≤ R ∧ R ≤ 100) (hv : v = R * PS u p.toNat) : -27993600 ≤ v ∧ v ≤ 27993600 := by
  have h1 := ps_rg hu p.toNat (by omega)
  have h2 : (6 : Int) ^ p.toNat ≤ 6 ^ 7 := by
    have : (6 : Nat) ^ p.toNat ≤ 6 ^ 7 := Nat.pow_le_pow_right (by decide) (by omega)
    exact_mod_cast this
  have h3 : (6 : Int) ^ 7 = 279936 := by decide
  generalize PS u p.toNat = ps at h1 hv
  have h4 : 0 ≤ ps ∧ ps ≤ 279936 := by omega
  have h5 : R * ps ≤ 100 * ps := Int.mul_le_mul_of_nonneg_right hR.2 h4.1
  have h6 : -100 * ps ≤ R * ps := Int.mul_le_mul_of_nonneg_right hR.1 h4.1
  omega
def fm_m246 : Nat := 0
/-- java/lang/Integer.bitCount -/
theorem m246 {B : eB} (d : Nat) (M0 : Mm) (p0 : Int) (hP0 : Pw M0) (l0 : 0 ≤ p0) (u0 : p0 ≤ 4095) : Ct B (d + 1) 246 [I p0] M0 (qI fun z M => Pw M ∧ Fr fm_m246 M0 M ∧ 0 ≤ z ∧ z ≤ 63 ∧ (z = bcF p0)) := by
  refine ct_of (d := d + 0) (k := 0) (L := [some (I p0)]) rfl rfl rfl ?_
  have hF0 := Fr.rf fm_m246 M0
  generalize hQ : (qI fun z M => Pw M ∧ Fr fm_m246 M0 M ∧ 0 ≤ z ∧ z ≤ 63 ∧ (z = bcF p0)) = Q
  refine wk_il0 r246_0 (wk_il0 r246_1 (wk_c1 r246_2 (wk_iushrb r246_3 (by decide) ?_)))
  intro v1 h2 h3 h4
  refine wk_c5 r246_4 (wk_iand r246_7 ⟨by omega, by omega⟩ ⟨by omega, by omega⟩ ?_)
  intro v5 h6 h7 h8 h9
  refine wk_isub r246_8 (wk_is0 r246_9 (wk_il0 r246_10 (wk_c5 r246_11 (wk_iandr r246_14 ⟨by omega, by omega⟩ ?_))))
  intro v10 h11 h12 h13
  refine wk_il0 r246_15 (wk_c1 r246_16 (wk_iushrb r246_17 (by decide) ?_))
  intro v14 h15 h16 h17
  refine wk_c5 r246_18 (wk_iand r246_21 ⟨by omega, by omega⟩ ⟨by omega, by omega⟩ ?_)
  intro v18 h19 h20 h21 h22
  refine wk_iadd r246_22 (wk_is0 r246_23 (wk_il0 r246_24 (wk_il0 r246_25 (wk_c1 r246_26 (wk_iushrb r246_27 (by decide) ?_)))))
  intro v23 h24 h25 h26
  refine wk_iadd r246_28 (wk_wrap ?_)
  intro v27 h28 h29 h30
  refine wk_c5 r246_29 (wk_iandr r246_32 ⟨by omega, by omega⟩ ?_)
  intro v31 h32 h33 h34
  refine wk_is0 r246_33 (wk_il0 r246_34 (wk_il0 r246_35 (wk_c2 r246_36 (wk_iushrb r246_38 (by decide) ?_))))
  intro v35 h36 h37 h38
  refine wk_iadd r246_39 (wk_wrap ?_)
  intro v39 h40 h41 h42
  refine wk_is0 r246_40 (wk_il0 r246_41 (wk_il0 r246_42 (wk_c2 r246_43 (wk_iushrb r246_45 (by decide) ?_))))
  intro v43 h44 h45 h46
  refine wk_iadd r246_46 (wk_wrap ?_)
  intro v47 h48 h49 h50
  refine wk_is0 r246_47 (wk_il0 r246_48 (wk_c2 r246_49 (wk_iandc 6 64 r246_51 ⟨rfl, by decide⟩ rfl ?_)))
  subst hQ; exact wk_iret r246_52 (⟨rfl, _, rfl, hP0, hF0, by omega, by omega, by rw [bcF_eq]; subst_vars; rfl⟩)
