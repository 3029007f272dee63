/-! ===== the second layer: memory, numbers, what is to be shown of a place in a method ===== -/
/-- what the cells hold: by address and place -/
abbrev Mm : Type := Int → Int → Int
def cd (z : Int) : Nat := (z % 4294967296).toNat
def I (z : Int) : eV := .inl (cd z)
def J (n : Nat) : eV := .inr (.inl n)
def R (a : Int) : eV := .inr (.inr (a.toNat + 1))
def pw (k : Int) : Int := 2 ^ k.toNat
def mUp (M : Mm) (a i v : Int) : Mm := fun a' i' => if a' = a ∧ i' = i then v else M a' i'
def fil (M : Mm) (a v : Int) : Mm := fun a' i' => if a' = a then v else M a' i'
def cpy (M : Mm) (a b sp dp n : Int) : Mm := fun a' i' => if a' = b ∧ dp ≤ i' ∧ i' < dp + n then M a (sp + (i' - dp)) else M a' i'
theorem mUp_eq (M : Mm) (a i v : Int) : mUp M a i v a i = v := if_pos ⟨rfl, rfl⟩
theorem mUp_ne {M : Mm} {a i v a' i' : Int} (h : a' ≠ a ∨ i' ≠ i) : mUp M a i v a' i' = M a' i' := if_neg (fun q => h.elim (fun h => h q.1) (fun h => h q.2))
theorem fil_eq (M : Mm) (a v i : Int) : fil M a v a i = v := if_pos rfl
theorem fil_ne {M : Mm} {a v a' i' : Int} (h : a' ≠ a) : fil M a v a' i' = M a' i' := if_neg h
theorem cpy_ne {M : Mm} {a b sp dp n a' i' : Int} (h : a' ≠ b) : cpy M a b sp dp n a' i' = M a' i' := if_neg (fun q => h q.1)
theorem cd_lt (z : Int) : cd z < 4294967296 := by unfold cd; omega
theorem cd_l32 (z : Int) : l32 (cd z) = true := Nat.ble_eq_true_of_le (Nat.le_of_lt_succ (cd_lt z))
theorem cd_pos {z : Int} (h0 : 0 ≤ z) (h1 : z < 4294967296) : cd z = z.toNat := by unfold cd; omega
theorem cd_nat (n : Nat) : n % 4294967296 = cd (n : Int) := by unfold cd; omega
theorem cd_add (z w : Int) : (cd z + cd w) % 4294967296 = cd (z + w) := by unfold cd; omega
theorem cd_sub (z w : Int) : (cd z + (4294967296 - cd w)) % 4294967296 = cd (z - w) := by unfold cd; omega
theorem cd_neg (z : Int) : (4294967296 - cd z) % 4294967296 = cd (-z) := by unfold cd; omega
theorem cd_cast (z : Int) : ((cd z : Nat) : Int) = z % 4294967296 := by unfold cd; omega
theorem cd_mul (z w : Int) : (cd z * cd w) % 4294967296 = cd (z * w) := by
  have h : (((cd z * cd w) % 4294967296 : Nat) : Int) = ((cd (z * w) : Nat) : Int) := by
    rw [Int.natCast_emod, Int.natCast_mul, cd_cast, cd_cast, cd_cast]
    exact (Int.mul_emod z w 4294967296).symm
  exact Int.ofNat.inj h
theorem cd_eq {z w : Int} (h : z % 4294967296 = w % 4294967296) : cd z = cd w := by unfold cd; rw [h]
/-- the place in the order -/
theorem cd_ord {z : Int} (h : -2147483648 ≤ z ∧ z < 2147483648) : (cd z + 2147483648) % 4294967296 = (z + 2147483648).toNat := by unfold cd; omega
theorem pw_pos (k : Int) : 0 < pw k := Int.pow_pos (by decide)
theorem pw_nat (k : Nat) : pw (k : Int) = ((2 ^ k : Nat) : Int) := by
  unfold pw
  rw [Int.toNat_natCast, Int.natCast_pow]
  rfl
theorem pw_mono {j k : Int} (h : j ≤ k) : pw j ≤ pw k := by
  unfold pw
  have h1 : (2 : Nat) ^ j.toNat ≤ 2 ^ k.toNat := Nat.pow_le_pow_right (by decide) (Int.toNat_le_toNat h)
  exact_mod_cast h1
theorem pw_add {j k : Int} (h1 : 0 ≤ j) (h2 : 0 ≤ k) : pw (j + k) = pw j * pw k := by
  unfold pw
  rw [Int.toNat_add h1 h2, Int.pow_add]
theorem e_rng_I (B : eB) {z : Int} (h : -2147483648 ≤ z ∧ z < 2147483648) : e_rng B (cd z) = ((z + 2147483648).toNat, (z + 2147483648).toNat) := by
  unfold e_rng
  rw [cd_l32, cd_ord h]
  rfl
theorem e_lt_I {z w : Int} (hz : -2147483648 ≤ z ∧ z < 2147483648) (hw : -2147483648 ≤ w ∧ w < 2147483648) : e_lt ((z + 2147483648).toNat, (z + 2147483648).toNat) ((w + 2147483648).toNat, (w + 2147483648).toNat) = some (decide (z < w)) := by
  unfold e_lt
  by_cases h : z < w
  · rw [show Nat.ble (((z + 2147483648).toNat, (z + 2147483648).toNat).2 + 1) ((w + 2147483648).toNat, (w + 2147483648).toNat).1 = true from Nat.ble_eq_true_of_le (by show (z + 2147483648).toNat + 1 ≤ (w + 2147483648).toNat; omega), decide_eq_true h]
    rfl
  · rw [show Nat.ble (((z + 2147483648).toNat, (z + 2147483648).toNat).2 + 1) ((w + 2147483648).toNat, (w + 2147483648).toNat).1 = false from by rw [Bool.eq_false_iff]; intro q; have := Nat.le_of_ble_eq_true q; have h2 : (z + 2147483648).toNat + 1 ≤ (w + 2147483648).toNat := this; omega,
      show Nat.ble ((w + 2147483648).toNat, (w + 2147483648).toNat).2 ((z + 2147483648).toNat, (z + 2147483648).toNat).1 = true from Nat.ble_eq_true_of_le (by show (w + 2147483648).toNat ≤ (z + 2147483648).toNat; omega), decide_eq_false h]
    rfl
theorem e_eq_I {z w : Int} (hz : -2147483648 ≤ z ∧ z < 2147483648) (hw : -2147483648 ≤ w ∧ w < 2147483648) : e_eq ((z + 2147483648).toNat, (z + 2147483648).toNat) ((w + 2147483648).toNat, (w + 2147483648).toNat) = some (decide (z = w)) := by
  unfold e_eq
  by_cases h : z = w
  · subst h
    rw [decide_eq_true rfl]
    show cond (Nat.beq _ _ && Nat.beq _ _ && Nat.beq _ _) _ _ = _
    rw [Nat.beq_refl]
    rfl
  · have hn : (z + 2147483648).toNat ≠ (w + 2147483648).toNat := by omega
    have h1 : Nat.beq (z + 2147483648).toNat (w + 2147483648).toNat = false := by rw [Bool.eq_false_iff]; intro q; exact hn (Nat.eq_of_beq_eq_true q)
    show cond (Nat.beq _ _ && Nat.beq _ _ && Nat.beq (z + 2147483648).toNat (w + 2147483648).toNat) _ (cond (Nat.ble ((z + 2147483648).toNat + 1) (w + 2147483648).toNat || Nat.ble ((w + 2147483648).toNat + 1) (z + 2147483648).toNat) _ _) = _
    rw [h1, Bool.and_false, decide_eq_false h]
    have h2 : (Nat.ble ((z + 2147483648).toNat + 1) (w + 2147483648).toNat || Nat.ble ((w + 2147483648).toNat + 1) (z + 2147483648).toNat) = true := by
      rw [Bool.or_eq_true]
      rcases Nat.lt_or_gt_of_ne hn with q | q
      · exact Or.inl (Nat.ble_eq_true_of_le q)
      · exact Or.inr (Nat.ble_eq_true_of_le q)
    rw [h2]
    rfl
/-! the shape of the heap: written by program below (kdT, lnT); a field's type: 0 an int, 1 a long, 2 a reference -/
noncomputable def kd (a : Nat) : Nat := xget Nat 10 kdT a
noncomputable def ln (a : Nat) : Nat := xget Nat 10 lnT a
def tyk (k i : Nat) : Nat := cond (Nat.ble k 99) (match e_dv k i with
  | .inl _ => 0
  | .inr (.inl _) => 1
  | _ => 2) (cond (Nat.beq k 102) 1 (cond (Nat.ble 103 k) 2 0))
def dv (t : Nat) (z : Int) : eV := match t with
  | 0 => I z
  | 1 => J z.toNat
  | _ => R z
def V (h : eH) (M : Mm) : Prop := e_sz h = 770 ∧ 0 ≤ M (-1) 0 ∧ e_cn h = 770 + (M (-1) 0).toNat ∧ e_sl h = 86302 + 6 * (M (-1) 0).toNat ∧
  ∀ a : Nat, a < 770 → (e_get h a).1 = kd a ∧ (e_get h a).2.1 = ln a ∧ ∀ i : Nat, i < ln a → (e_get h a).2.2 i = dv (tyk (kd a) i) (M a i)
def Ag (lo : List (Nat × eV)) (L : List (Option eV)) : Prop := ∀ (i : Nat) (v : eV), L[i]? = some (some v) → e_lk lo i = some v
noncomputable abbrev EE (B : eB) (d : Nat) : eE := e_evC opT pgs ml B d
noncomputable def rowAt (y pc : Nat) : eI := xget eI 11 (xget (xT eI 11) 9 pgs y) pc
def Wp (B : eB) (d y pc : Nat) (L : List (Option eV)) (st : List eV) (M : Mm) (Q : Nat → eV → Mm → Prop) : Prop :=
  ∀ (h : eH) (lo : List (Nat × eV)), V h M → Ag lo L → ∃ (n : Nat) (o : eO) (M2 : Mm), e_run opT (xget (xT eI 11) 9 pgs y) (EE B d) B n (pc, lo, st, h) = some o ∧ V o.2.2 M2 ∧ Q o.1 o.2.1 M2
def Ct (B : eB) (d y : Nat) (as : List eV) (M : Mm) (Q : Nat → eV → Mm → Prop) : Prop :=
  ∀ (h : eH), V h M → ∃ (o : eO) (M2 : Mm), EE B d y as h = some o ∧ e_cn h ≤ e_cn o.2.2 ∧ e_sl h ≤ e_sl o.2.2 ∧ V o.2.2 M2 ∧ Q o.1 o.2.1 M2
theorem Wp.mono {B : eB} {d y pc : Nat} {L : List (Option eV)} {st : List eV} {M : Mm} {Q Q2 : Nat → eV → Mm → Prop} (h : Wp B d y pc L st M Q) (hq : ∀ k v M2, Q k v M2 → Q2 k v M2) : Wp B d y pc L st M Q2 := by
  intro h1 lo hV hA
  obtain ⟨n, o, M2, a1, a2, a3⟩ := h h1 lo hV hA
  exact ⟨n, o, M2, a1, a2, hq _ _ _ a3⟩
theorem Ct.mono {B : eB} {d y : Nat} {as : List eV} {M : Mm} {Q Q2 : Nat → eV → Mm → Prop} (h : Ct B d y as M Q) (hq : ∀ k v M2, Q k v M2 → Q2 k v M2) : Ct B d y as M Q2 := by
  intro h1 hV
  obtain ⟨o, M2, a1, a2, a3, a4, a5⟩ := h h1 hV
  exact ⟨o, M2, a1, a2, a3, a4, hq _ _ _ a5⟩
theorem e_step_row {B : eB} {y pc : Nat} {E : eE} {lo : List (Nat × eV)} {st : List eV} {h : eH} {op a b c k : Nat} (hr : rowAt y pc = (op, a, b, c, k)) (hb : (Nat.ble pc 2047 && Nat.ble op 127) = true) : e_step opT (xget (xT eI 11) 9 pgs y) E B (pc, lo, st, h) = xget eF 7 opT op a b c E B (pc, lo, st, h) := by
  unfold e_step
  show (match rowAt y pc with
    | (op, a, b, c, _) => cond (Nat.ble pc 2047 && Nat.ble op 127) (xget eF 7 opT op a b c E B (pc, lo, st, h)) none) = _
  rw [hr]
  show cond (Nat.ble pc 2047 && Nat.ble op 127) _ _ = _
  rw [hb]
  rfl
theorem e_mono_of {h h2 : eH} (h1 : e_cn h ≤ e_cn h2) (h3 : e_sl h ≤ e_sl h2) : e_mono h h2 = true := by
  unfold e_mono
  rw [Nat.ble_eq_true_of_le h1, Nat.ble_eq_true_of_le h3]
  rfl
/-- one step on -/
theorem wp_step {B : eB} {d y pc pc2 : Nat} {L L2 : List (Option eV)} {st st2 : List eV} {M M2 : Mm} {Q : Nat → eV → Mm → Prop} {op a b c k : Nat} (hr : rowAt y pc = (op, a, b, c, k)) (hb : (Nat.ble pc 2047 && Nat.ble op 127) = true)
    (hs : ∀ (h : eH) (lo : List (Nat × eV)), V h M → Ag lo L → ∃ lo2 h2, xget eF 7 opT op a b c (EE B d) B (pc, lo, st, h) = some (.inl (pc2, lo2, st2, h2)) ∧ e_cn h ≤ e_cn h2 ∧ e_sl h ≤ e_sl h2 ∧ V h2 M2 ∧ Ag lo2 L2) (hk : Wp B d y pc2 L2 st2 M2 Q) : Wp B d y pc L st M Q := by
  intro h lo hV hA
  obtain ⟨lo2, h2, e1, e2, e3, e4, e5⟩ := hs h lo hV hA
  obtain ⟨n, o, M3, a1, a2, a3⟩ := hk h2 lo2 e4 e5
  refine ⟨n + 1, o, M3, ?_, a2, a3⟩
  rw [e_run_s, e_step_row hr hb, e1]
  show cond (e_mono h h2) _ _ = _
  rw [e_mono_of e2 e3]
  exact a1
theorem wp_end {B : eB} {d y pc : Nat} {L : List (Option eV)} {st : List eV} {M : Mm} {Q : Nat → eV → Mm → Prop} {op a b c k : Nat} (hr : rowAt y pc = (op, a, b, c, k)) (hb : (Nat.ble pc 2047 && Nat.ble op 127) = true)
    (hs : ∀ (h : eH) (lo : List (Nat × eV)), V h M → Ag lo L → ∃ o M2, xget eF 7 opT op a b c (EE B d) B (pc, lo, st, h) = some (.inr o) ∧ e_cn h ≤ e_cn o.2.2 ∧ e_sl h ≤ e_sl o.2.2 ∧ V o.2.2 M2 ∧ Q o.1 o.2.1 M2) : Wp B d y pc L st M Q := by
  intro h lo hV hA
  obtain ⟨o, M2, e1, e2, e3, e4, e5⟩ := hs h lo hV hA
  refine ⟨1, o, M2, ?_, e4, e5⟩
  rw [e_run_s, e_step_row hr hb, e1]
  show cond (e_mono h o.2.2) _ _ = _
  rw [e_mono_of e2 e3]
  rfl
/-- a step that leaves locals and memory -/
theorem wp_plain {B : eB} {d y pc pc2 : Nat} {L : List (Option eV)} {st st2 : List eV} {M : Mm} {Q : Nat → eV → Mm → Prop} {op a b c k : Nat} (hr : rowAt y pc = (op, a, b, c, k)) (hb : (Nat.ble pc 2047 && Nat.ble op 127) = true)
    (hs : ∀ (h : eH) (lo : List (Nat × eV)), V h M → Ag lo L → xget eF 7 opT op a b c (EE B d) B (pc, lo, st, h) = some (.inl (pc2, lo, st2, h))) (hk : Wp B d y pc2 L st2 M Q) : Wp B d y pc L st M Q :=
  wp_step hr hb (fun h lo hV hA => ⟨lo, h, hs h lo hV hA, Nat.le_refl _, Nat.le_refl _, hV, hA⟩) hk
theorem e_any_some {f : Nat → Option eO} {n : Nat} {o : eO} (hm : ∀ n m o o2, f n = some o → f m = some o2 → o = o2) (h : f n = some o) : e_any f = some o := by
  have hex : ∃ n o, f n = some o := ⟨n, o, h⟩
  unfold e_any
  rw [dif_pos hex]
  obtain ⟨o2, h2⟩ := Classical.choose_spec hex
  rw [h2, hm _ _ _ _ h h2]
theorem e_run_det {T : xT eF 7} {t : xT eI 11} {E : eE} {B : eB} : ∀ (n m : Nat) (g : eG) (o o2 : eO), e_run T t E B n g = some o → e_run T t E B m g = some o2 → o = o2 := by
  intro n
  induction n with
  | zero => intro m g o o2 h; cases h
  | succ n ih =>
    intro m g o o2 h1 h2
    cases m with
    | zero => cases h2
    | succ m =>
      rw [e_run_s] at h1 h2
      generalize e_step T t E B g = r at h1 h2
      rcases i_next h1 with ⟨g2, rfl, -, -, a⟩ | ⟨rfl, -, -⟩
      · rcases i_next h2 with ⟨g3, q, -, -, b⟩ | ⟨q, -, -⟩
        · cases q
          exact ih m _ _ _ a b
        · cases q
      · rcases i_next h2 with ⟨g3, q, -, -, b⟩ | ⟨q, -, -⟩
        · cases q
        · cases q
          rfl
def argL : List eV → List (Option eV)
  | [] => []
  | v :: r => some v :: cond (e_wide v) (none :: argL r) (argL r)
theorem Ag_args : ∀ (as : List eV) (k j : Nat), ∀ (i : Nat) (v : eV), (argL as ++ List.replicate k none)[i]? = some (some v) → e_lk (e_args j as) (j + i) = some v := by
  intro as
  induction as with
  | nil =>
    intro k j i v h
    have h2 : (List.replicate k (none : Option eV))[i]? = some (some v) := h
    rw [List.getElem?_replicate] at h2
    split at h2 <;> cases h2
  | cons w r ih =>
    intro k j i v h
    show cond (Nat.beq j (j + i)) (some w) (e_lk (e_args (j + cond (e_wide w) 2 1) r) (j + i)) = some v
    cases i with
    | zero =>
      rw [Nat.add_zero, Nat.beq_refl]
      exact Option.some.inj h
    | succ i =>
      rw [show Nat.beq j (j + (i + 1)) = false from by rw [Bool.eq_false_iff]; intro q; have := Nat.eq_of_beq_eq_true q; omega]
      show e_lk (e_args (j + cond (e_wide w) 2 1) r) (j + (i + 1)) = some v
      cases hw : e_wide w with
      | false =>
        have h2 : ((cond (e_wide w) (none :: argL r) (argL r)) ++ List.replicate k none)[i]? = some (some v) := h
        rw [hw] at h2
        have := ih k (j + 1) i v h2
        rw [show j + (i + 1) = j + 1 + i by omega]
        exact this
      | true =>
        have h2 : ((cond (e_wide w) (none :: argL r) (argL r)) ++ List.replicate k none)[i]? = some (some v) := h
        rw [hw] at h2
        cases i with
        | zero => cases h2
        | succ i =>
          have := ih k (j + 2) i v h2
          rw [show j + (i + 1 + 1) = j + 2 + i by omega]
          exact this
/-- a method's body -/
theorem ct_of {B : eB} {d y k : Nat} {as : List eV} {L : List (Option eV)} {M : Mm} {Q : Nat → eV → Mm → Prop} (hy : isPr y = false) (hc : Nat.ble (e_cat as) (ml y) = true) (hL : argL as ++ List.replicate k none = L) (hW : Wp B d y 0 L [] M Q) : Ct B (d + 1) y as M Q := by
  intro h hV
  obtain ⟨n, o, M2, a1, a2, a3⟩ := hW h (e_args 0 as) hV (by
    intro i v hi
    have := Ag_args as k 0 i v (by rw [hL]; exact hi)
    rw [Nat.zero_add] at this
    exact this)
  have hm := e_run_mono n _ _ a1
  refine ⟨o, M2, ?_, hm.1, hm.2, a2, a3⟩
  show cond (isPr y) _ (cond (Nat.ble (e_cat as) (ml y)) _ _) = _
  rw [hy, hc]
  exact e_any_some (fun n m o o2 h1 h2 => e_run_det n m _ _ _ h1 h2) a1
