/-! ===== written by program (wip/layer2/rules4.py): the law's own instructions ===== -/
/-- what may come of a call whose throw is caught -/
def Cc (B : eB) (d y pc a : Nat) (L : List (Option eV)) (st : List eV) (Q Qa : Nat → eV → Mm → Prop) : Prop := ∀ (k : Nat) (v : eV) (M2 : Mm), Qa k v M2 → (k = 0 → Wp B d y pc L st M2 Q) ∧ (k = 1 → Wp B d y pc L (v :: st) M2 Q) ∧ (2 ≤ k → k = e_xk a + 2 ∧ Q 1 (I 1) M2)
def e_bkc (a pc : Nat) (lo : List (Nat × eV)) (st : List eV) (o : Option eO) : eR := match o with
  | some (k + 2, _, h2) => cond (Nat.beq k (e_xk a)) (some (.inr (1, .inl 1, h2))) none
  | o => e_back pc lo st o
theorem w_backc {B : eB} {d y pc pc2 : Nat} {L : List (Option eV)} {st : List eV} {M : Mm} {Q : Nat → eV → Mm → Prop} {as : List eV} {st0 : List eV} {a b c op : Nat} {Qa : Nat → eV → Mm → Prop} (hr : Rw y pc pc2 3 op a b c) (hop : Nat.ble op 127 = true) (hs : ∀ (lo : List (Nat × eV)) (h : eH), V h M → Ag lo L → xget eF 7 opT op a b c (EE B d) B (pc, lo, st, h) = e_bkc a pc lo st0 (EE B d a as h)) (hct : Ct B d a as M Qa) (hq : Cc B d y pc2 a L st0 Q Qa) : Wp B d y pc L st M Q := by
  intro h lo hV hA
  obtain ⟨o, M2, e1, e2, e3, e4, e5⟩ := hct h hV
  obtain ⟨h1, hpc, k9, h3⟩ := hr
  subst hpc
  have hst := e_step_row (B := B) (E := EE B d) (lo := lo) (st := st) (h := h) h3 (by rw [h1, hop]; rfl)
  rw [hs lo h hV hA, e1] at hst
  obtain ⟨k, v, h2⟩ := o
  obtain ⟨q0, q1, q2⟩ := hq k v M2 e5
  match k, hst, q0, q1, q2, e5 with
  | 0, hst, q0, q1, q2, e5 =>
    obtain ⟨n, o, M3, a1, a2, a3⟩ := q0 rfl h2 lo e4 hA
    refine ⟨n + 1, o, M3, ?_, a2, a3⟩
    rw [e_run_s, hst]
    show cond (e_mono h h2) _ _ = _
    rw [e_mono_of e2 e3]
    exact a1
  | 1, hst, q0, q1, q2, e5 =>
    obtain ⟨n, o, M3, a1, a2, a3⟩ := q1 rfl h2 lo e4 hA
    refine ⟨n + 1, o, M3, ?_, a2, a3⟩
    rw [e_run_s, hst]
    show cond (e_mono h h2) _ _ = _
    rw [e_mono_of e2 e3]
    exact a1
  | k + 2, hst, q0, q1, q2, e5 =>
    obtain ⟨hk, hQ⟩ := q2 (by omega)
    have hk2 : k = e_xk a := by omega
    refine ⟨1, (1, .inl 1, h2), M2, ?_, e4, hQ⟩
    have hst2 : e_step opT (xget (xT eI 11) 9 pgs y) (EE B d) B (pc, lo, st, h) = some (.inr (1, .inl 1, h2)) := by
      rw [hst]
      show cond (Nat.beq k (e_xk a)) (some (.inr (1, .inl 1, h2)) : eR) none = _
      rw [hk2, Nat.beq_refl]
      rfl
    rw [e_run_s, hst2]
    show cond (e_mono h h2) _ _ = _
    rw [e_mono_of e2 e3]
    rfl
theorem ccI {B : eB} {d y pc a : Nat} {L : List (Option eV)} {st : List eV} {Q : Nat → eV → Mm → Prop} {P : Int → Mm → Prop} {e : Nat} {X : Mm → Prop} (he : e = e_xk a) (hx : ∀ M2, X M2 → Q 1 (I 1) M2) (h : ∀ z M2, P z M2 → Wp B d y pc L (I z :: st) M2 Q) : Cc B d y pc a L st Q (qX e X (qI P)) := by
  intro k v M2 hq
  rcases hq with ⟨rfl, h1⟩ | ⟨rfl, z, rfl, h3⟩
  · exact ⟨fun q => by omega, fun q => by omega, fun _ => ⟨by rw [he], hx M2 h1⟩⟩
  · exact ⟨fun q => absurd q (by decide), fun _ => h z M2 h3, fun q => absurd q (by decide)⟩
theorem wk_cc2 {B : eB} {d y pc pc2 : Nat} {L : List (Option eV)} {st : List eV} {M : Mm} {Q : Nat → eV → Mm → Prop} {a c : Nat} {o : Int} {v1 : eV} {Qa : Nat → eV → Mm → Prop} (hr : Rw y pc pc2 3 111 a 2 c) (hk : Kc o a) (hc : Nat.ble (e_cat st) 8 = true) (hct : Ct B d a [R o, v1] M Qa) (hq : Cc B d y pc2 a L st Q Qa) : Wp B d y pc L (v1 :: R o :: st) M Q :=
  w_backc hr rfl (fun lo h hV _ => by
    show cond (Nat.ble 2 (st.length + 2) && Nat.ble (e_cat st) 8) (cond (Nat.ble (o.toNat + 1) (e_sz h) && Nat.beq (e_get h o.toNat).1 (e_mc a)) (match EE B d a [R o, v1] h with
      | some (k + 2, _, h2) => cond (Nat.beq k (e_xk a)) (some (.inr (1, .inl 1, h2)) : eR) none
      | o => e_back pc lo st o) none) none = _
    rw [b_and (Nat.ble_eq_true_of_le (Nat.le_add_left 2 _)) hc, kc_b hk hV]
    rfl) hct hq
theorem wk_cc3 {B : eB} {d y pc pc2 : Nat} {L : List (Option eV)} {st : List eV} {M : Mm} {Q : Nat → eV → Mm → Prop} {a c : Nat} {o : Int} {v1 v2 : eV} {Qa : Nat → eV → Mm → Prop} (hr : Rw y pc pc2 3 111 a 3 c) (hk : Kc o a) (hc : Nat.ble (e_cat st) 8 = true) (hct : Ct B d a [R o, v1, v2] M Qa) (hq : Cc B d y pc2 a L st Q Qa) : Wp B d y pc L (v2 :: v1 :: R o :: st) M Q :=
  w_backc hr rfl (fun lo h hV _ => by
    show cond (Nat.ble 3 (st.length + 3) && Nat.ble (e_cat st) 8) (cond (Nat.ble (o.toNat + 1) (e_sz h) && Nat.beq (e_get h o.toNat).1 (e_mc a)) (match EE B d a [R o, v1, v2] h with
      | some (k + 2, _, h2) => cond (Nat.beq k (e_xk a)) (some (.inr (1, .inl 1, h2)) : eR) none
      | o => e_back pc lo st o) none) none = _
    rw [b_and (Nat.ble_eq_true_of_le (Nat.le_add_left 3 _)) hc, kc_b hk hV]
    rfl) hct hq
theorem wk_cc4 {B : eB} {d y pc pc2 : Nat} {L : List (Option eV)} {st : List eV} {M : Mm} {Q : Nat → eV → Mm → Prop} {a c : Nat} {o : Int} {v1 v2 v3 : eV} {Qa : Nat → eV → Mm → Prop} (hr : Rw y pc pc2 3 111 a 4 c) (hk : Kc o a) (hc : Nat.ble (e_cat st) 8 = true) (hct : Ct B d a [R o, v1, v2, v3] M Qa) (hq : Cc B d y pc2 a L st Q Qa) : Wp B d y pc L (v3 :: v2 :: v1 :: R o :: st) M Q :=
  w_backc hr rfl (fun lo h hV _ => by
    show cond (Nat.ble 4 (st.length + 4) && Nat.ble (e_cat st) 8) (cond (Nat.ble (o.toNat + 1) (e_sz h) && Nat.beq (e_get h o.toNat).1 (e_mc a)) (match EE B d a [R o, v1, v2, v3] h with
      | some (k + 2, _, h2) => cond (Nat.beq k (e_xk a)) (some (.inr (1, .inl 1, h2)) : eR) none
      | o => e_back pc lo st o) none) none = _
    rw [b_and (Nat.ble_eq_true_of_le (Nat.le_add_left 4 _)) hc, kc_b hk hV]
    rfl) hct hq
/-- the script: how long, its numbers -/
def SB (B : eB) (n : Int) : Prop := 0 ≤ n ∧ n ≤ 3072 ∧ (B 0).1 = n.toNat ∧ (B 0).2 = 1 ∧ ∀ x : Nat, (x : Int) < n → (B (1099511627776 + x)).2 = (B (1099511627776 + x)).1 ∧ (B (1099511627776 + x)).1 < 4294967296
theorem wk_slen {B : eB} {d y pc pc2 : Nat} {L : List (Option eV)} {st : List eV} {M : Mm} {Q : Nat → eV → Mm → Prop} {a b c : Nat} {n : Int} (hB : SB B n) (hr : Rw y pc pc2 1 98 a b c) (hk : Wp B d y pc2 L (I n :: st) M Q) : Wp B d y pc L (R 4096 :: st) M Q :=
  r_plain hr rfl (fun E lo h hV _ => by
    obtain ⟨h0, h1, h2, h3, -⟩ := hB
    show cond (Nat.beq 4096 4096 && Nat.beq (B 0).2 1 && Nat.ble (B 0).1 100000) (eN (pc + 1) lo (.inl (B 0).1 :: st) h) none = _
    rw [h3, h2, show Nat.ble n.toNat 100000 = true from Nat.ble_eq_true_of_le (by omega), show n.toNat = cd n from (cd_pos h0 (by omega)).symm]
    rfl) hk
