/-! ===== written by program (wip/layer2/rules.py): one rule an instruction ===== -/
def Rw (y pc pc2 n op a b c : Nat) : Prop := Nat.ble pc 2047 = true ∧ pc2 = pc + n ∧ ∃ k, rowAt y pc = (op, a, b, c, k)
noncomputable def rwb (y pc pc2 n op a b c : Nat) : Bool := Nat.ble pc 2047 && Nat.beq pc2 (pc + n) && (match rowAt y pc with
  | (o, a', b', c', _) => Nat.beq o op && Nat.beq a' a && Nat.beq b' b && Nat.beq c' c)
theorem rw_of {y pc pc2 n op a b c : Nat} (h : rwb y pc pc2 n op a b c = true) : Rw y pc pc2 n op a b c := by
  unfold rwb at h
  generalize hq : rowAt y pc = q at h
  obtain ⟨o, a', b', c', k⟩ := q
  simp only [Bool.and_eq_true] at h
  obtain ⟨⟨h1, h2⟩, ⟨⟨h3, h4⟩, h5⟩, h6⟩ := h
  refine ⟨h1, Nat.eq_of_beq_eq_true h2, k, ?_⟩
  rw [hq, Nat.eq_of_beq_eq_true h3, Nat.eq_of_beq_eq_true h4, Nat.eq_of_beq_eq_true h5, Nat.eq_of_beq_eq_true h6]
theorem r_to {B : eB} {d y pc pc2 : Nat} {L : List (Option eV)} {st : List eV} {M : Mm} {Q : Nat → eV → Mm → Prop} {pc3 n op a b c : Nat} {st2 : List eV} (hr : Rw y pc pc2 n op a b c) (hop : Nat.ble op 127 = true) (hs : ∀ (E : eE) (lo : List (Nat × eV)) (h : eH), V h M → Ag lo L → xget eF 7 opT op a b c E B (pc, lo, st, h) = some (.inl (pc3, lo, st2, h))) (hk : Wp B d y pc3 L st2 M Q) : Wp B d y pc L st M Q := by
  obtain ⟨h1, -, k, h3⟩ := hr
  exact wp_plain h3 (by rw [h1, hop]; rfl) (fun h lo hV hA => hs _ lo h hV hA) hk
theorem r_plain {B : eB} {d y pc pc2 : Nat} {L : List (Option eV)} {st : List eV} {M : Mm} {Q : Nat → eV → Mm → Prop} {n op a b c : Nat} {st2 : List eV} (hr : Rw y pc pc2 n op a b c) (hop : Nat.ble op 127 = true) (hs : ∀ (E : eE) (lo : List (Nat × eV)) (h : eH), V h M → Ag lo L → xget eF 7 opT op a b c E B (pc, lo, st, h) = some (.inl (pc + n, lo, st2, h))) (hk : Wp B d y pc2 L st2 M Q) : Wp B d y pc L st M Q := by
  have e := hr.2.1
  subst e
  exact r_to hr hop hs hk
theorem r_step {B : eB} {d y pc pc2 : Nat} {L : List (Option eV)} {st : List eV} {M : Mm} {Q : Nat → eV → Mm → Prop} {n op a b c : Nat} {st2 : List eV} {L2 : List (Option eV)} {M2 : Mm} (hr : Rw y pc pc2 n op a b c) (hop : Nat.ble op 127 = true) (hs : ∀ (E : eE) (lo : List (Nat × eV)) (h : eH), V h M → Ag lo L → ∃ lo2 h2, xget eF 7 opT op a b c E B (pc, lo, st, h) = some (.inl (pc + n, lo2, st2, h2)) ∧ e_cn h ≤ e_cn h2 ∧ e_sl h ≤ e_sl h2 ∧ V h2 M2 ∧ Ag lo2 L2) (hk : Wp B d y pc2 L2 st2 M2 Q) : Wp B d y pc L st M Q := by
  have e := hr.2.1
  subst e
  obtain ⟨h1, -, k, h3⟩ := hr
  exact wp_step h3 (by rw [h1, hop]; rfl) (fun h lo hV hA => hs _ lo h hV hA) hk
theorem r_end {B : eB} {d y pc pc2 : Nat} {L : List (Option eV)} {st : List eV} {M : Mm} {Q : Nat → eV → Mm → Prop} {n op a b c : Nat} (hr : Rw y pc pc2 n op a b c) (hop : Nat.ble op 127 = true) (hs : ∀ (lo : List (Nat × eV)) (h : eH), V h M → Ag lo L → ∃ o M2, xget eF 7 opT op a b c (EE B d) B (pc, lo, st, h) = some (.inr o) ∧ e_cn h ≤ e_cn o.2.2 ∧ e_sl h ≤ e_sl o.2.2 ∧ V o.2.2 M2 ∧ Q o.1 o.2.1 M2) : Wp B d y pc L st M Q := by
  obtain ⟨h1, -, k, h3⟩ := hr
  exact wp_end h3 (by rw [h1, hop]; rfl) (fun h lo hV hA => hs lo h hV hA)
abbrev eN (pc : Nat) (lo : List (Nat × eV)) (st : List eV) (h : eH) : eR := some (.inl (pc, lo, st, h))
theorem e_lk_filter {p : Nat × eV → Bool} {j : Nat} {w : eV} : ∀ lo : List (Nat × eV), e_lk lo j = some w → p (j, w) = true → e_lk (lo.filter p) j = some w := by
  intro lo
  induction lo with
  | nil => intro h; cases h
  | cons q r ih =>
    intro h hp
    obtain ⟨k, u⟩ := q
    have h' : cond (Nat.beq k j) (some u) (e_lk r j) = some w := h
    cases hb : Nat.beq k j with
    | true =>
      rw [hb] at h'
      have e := Nat.eq_of_beq_eq_true hb
      subst e
      have e2 : u = w := Option.some.inj h'
      subst e2
      rw [List.filter_cons, if_pos hp]
      show cond (Nat.beq k k) (some u) _ = _
      rw [Nat.beq_refl]
      rfl
    | false =>
      rw [hb] at h'
      rw [List.filter_cons]
      split
      · show cond (Nat.beq k j) (some u) _ = _
        rw [hb]
        exact ih h' hp
      · exact ih h' hp
def nwo (x : Option eV) : Bool := match x with
  | some w => !(e_wide w)
  | none => true
theorem bf {a b : Nat} (h : a ≠ b) : Nat.beq a b = false := by rw [Bool.eq_false_iff]; intro q; exact h (Nat.eq_of_beq_eq_true q)
theorem Ag_st1 {lo : List (Nat × eV)} {L : List (Option eV)} {i : Nat} {v : eV} (hA : Ag lo L) (hn : ∀ j x, j + 1 = i → L[j]? = some x → nwo x = true) : Ag (e_st1 lo i v) (L.set i (some v)) := by
  intro j w hj
  rw [List.getElem?_set] at hj
  unfold e_st1
  show cond (Nat.beq i j) (some v) (e_lk (lo.filter _) j) = some w
  by_cases e : i = j
  · subst e
    rw [if_pos rfl] at hj
    rw [Nat.beq_refl]
    split at hj
    · exact Option.some.inj hj
    · cases hj
  · rw [if_neg e] at hj
    rw [bf e]
    refine e_lk_filter lo (hA j w hj) ?_
    show (!(Nat.beq j i) && !(Nat.beq (j + 1) i && e_wide w)) = true
    rw [bf (Ne.symm e)]
    by_cases e2 : j + 1 = i
    · have h3 : (!(e_wide w)) = true := hn j _ e2 hj
      rw [Bool.not_eq_true'] at h3
      rw [h3, Bool.and_false]
      rfl
    · rw [bf e2]
      rfl
theorem Ag_st2 {lo : List (Nat × eV)} {L : List (Option eV)} {i : Nat} {v : eV} (hA : Ag lo L) (hn : ∀ j x, j + 1 = i → L[j]? = some x → nwo x = true) : Ag (e_st2 lo i v) ((L.set i (some v)).set (i + 1) none) := by
  intro j w hj
  rw [List.getElem?_set] at hj
  by_cases e1 : i + 1 = j
  · rw [if_pos e1] at hj
    split at hj
    · cases hj
    · cases hj
  rw [if_neg e1, List.getElem?_set] at hj
  unfold e_st2
  show cond (Nat.beq i j) (some v) (e_lk (lo.filter _) j) = some w
  by_cases e : i = j
  · subst e
    rw [if_pos rfl] at hj
    rw [Nat.beq_refl]
    split at hj
    · exact Option.some.inj hj
    · cases hj
  · rw [if_neg e] at hj
    rw [bf e]
    refine e_lk_filter lo (hA j w hj) ?_
    show (!(Nat.beq j i) && (!(Nat.beq j (i + 1)) && !(Nat.beq (j + 1) i && e_wide w))) = true
    rw [bf (Ne.symm e), bf (Ne.symm e1)]
    by_cases e2 : j + 1 = i
    · have h3 : (!(e_wide w)) = true := hn j _ e2 hj
      rw [Bool.not_eq_true'] at h3
      rw [h3, Bool.and_false]
      rfl
    · rw [bf e2]
      rfl
theorem wk_c1 {B : eB} {d y pc pc2 : Nat} {L : List (Option eV)} {st : List eV} {M : Mm} {Q : Nat → eV → Mm → Prop} {v : Int} {b c : Nat} (hr : Rw y pc pc2 1 1 (cd v) b c) (hk : Wp B d y pc2 L (I v :: st) M Q) : Wp B d y pc L st M Q := r_plain hr rfl (fun E lo h _ _ => rfl) hk
theorem wk_c2 {B : eB} {d y pc pc2 : Nat} {L : List (Option eV)} {st : List eV} {M : Mm} {Q : Nat → eV → Mm → Prop} {v : Int} {b c : Nat} (hr : Rw y pc pc2 2 2 (cd v) b c) (hk : Wp B d y pc2 L (I v :: st) M Q) : Wp B d y pc L st M Q := r_plain hr rfl (fun E lo h _ _ => rfl) hk
theorem wk_c3 {B : eB} {d y pc pc2 : Nat} {L : List (Option eV)} {st : List eV} {M : Mm} {Q : Nat → eV → Mm → Prop} {v : Int} {b c : Nat} (hr : Rw y pc pc2 3 3 (cd v) b c) (hk : Wp B d y pc2 L (I v :: st) M Q) : Wp B d y pc L st M Q := r_plain hr rfl (fun E lo h _ _ => rfl) hk
theorem wk_c5 {B : eB} {d y pc pc2 : Nat} {L : List (Option eV)} {st : List eV} {M : Mm} {Q : Nat → eV → Mm → Prop} {v : Int} {b c : Nat} (hr : Rw y pc pc2 3 5 (cd v) b c) (hk : Wp B d y pc2 L (I v :: st) M Q) : Wp B d y pc L st M Q := r_plain hr rfl (fun E lo h _ _ => rfl) hk
theorem wk_c6 {B : eB} {d y pc pc2 : Nat} {L : List (Option eV)} {st : List eV} {M : Mm} {Q : Nat → eV → Mm → Prop} {v b c : Nat} (hr : Rw y pc pc2 1 6 v b c) (hk : Wp B d y pc2 L (J v :: st) M Q) : Wp B d y pc L st M Q := r_plain hr rfl (fun E lo h _ _ => rfl) hk
theorem wk_c7 {B : eB} {d y pc pc2 : Nat} {L : List (Option eV)} {st : List eV} {M : Mm} {Q : Nat → eV → Mm → Prop} {v b c : Nat} (hr : Rw y pc pc2 3 7 v b c) (hk : Wp B d y pc2 L (J v :: st) M Q) : Wp B d y pc L st M Q := r_plain hr rfl (fun E lo h _ _ => rfl) hk
theorem wk_c8 {B : eB} {d y pc pc2 : Nat} {L : List (Option eV)} {st : List eV} {M : Mm} {Q : Nat → eV → Mm → Prop} {v : Int} {b c : Nat} (hr : Rw y pc pc2 2 8 v.toNat b c) (hk : Wp B d y pc2 L (R v :: st) M Q) : Wp B d y pc L st M Q := r_plain hr rfl (fun E lo h _ _ => rfl) hk
theorem wk_kget {B : eB} {d y pc pc2 : Nat} {L : List (Option eV)} {st : List eV} {M : Mm} {Q : Nat → eV → Mm → Prop} {a b c : Nat} (hr : Rw y pc pc2 3 9 a b c) (hk : Wp B d y pc2 L (R 4095 :: st) M Q) : Wp B d y pc L st M Q := r_plain hr rfl (fun E lo h _ _ => rfl) hk
theorem g_iload {B : eB} {d y pc pc2 : Nat} {L : List (Option eV)} {st : List eV} {M : Mm} {Q : Nat → eV → Mm → Prop} {n op i b c : Nat} {z : Int} (hr : Rw y pc pc2 n op i b c) (hop : Nat.ble op 127 = true) (hf : xget eF 7 opT op = f_iload n) (hl : L[i]? = some (some (I z))) (hk : Wp B d y pc2 L (I z :: st) M Q) : Wp B d y pc L st M Q :=
  r_plain hr hop (fun E lo h hV hA => by
    rw [hf]
    unfold f_iload
    dsimp only
    rw [hA i _ hl]
    rfl) hk
theorem g_istore {B : eB} {d y pc pc2 : Nat} {L : List (Option eV)} {st : List eV} {M : Mm} {Q : Nat → eV → Mm → Prop} {n op i b c : Nat} {z : Int} (hr : Rw y pc pc2 n op i b c) (hop : Nat.ble op 127 = true) (hf : xget eF 7 opT op = f_istore n) (hn : ∀ j x, j + 1 = i → L[j]? = some x → nwo x = true) (hk : Wp B d y pc2 (L.set i (some (I z))) st M Q) : Wp B d y pc L (I z :: st) M Q :=
  r_step hr hop (fun E lo h hV hA => ⟨_, h, by rw [hf]; rfl, Nat.le_refl _, Nat.le_refl _, hV, Ag_st1 hA hn⟩) hk
theorem g_lload {B : eB} {d y pc pc2 : Nat} {L : List (Option eV)} {st : List eV} {M : Mm} {Q : Nat → eV → Mm → Prop} {n op i b c : Nat} {z : Nat} (hr : Rw y pc pc2 n op i b c) (hop : Nat.ble op 127 = true) (hf : xget eF 7 opT op = f_lload n) (hl : L[i]? = some (some (J z))) (hk : Wp B d y pc2 L (J z :: st) M Q) : Wp B d y pc L st M Q :=
  r_plain hr hop (fun E lo h hV hA => by
    rw [hf]
    unfold f_lload
    dsimp only
    rw [hA i _ hl]
    rfl) hk
theorem g_lstore {B : eB} {d y pc pc2 : Nat} {L : List (Option eV)} {st : List eV} {M : Mm} {Q : Nat → eV → Mm → Prop} {n op i b c : Nat} {z : Nat} (hr : Rw y pc pc2 n op i b c) (hop : Nat.ble op 127 = true) (hf : xget eF 7 opT op = f_lstore n) (hn : ∀ j x, j + 1 = i → L[j]? = some x → nwo x = true) (hk : Wp B d y pc2 ((L.set i (some (J z))).set (i + 1) none) st M Q) : Wp B d y pc L (J z :: st) M Q :=
  r_step hr hop (fun E lo h hV hA => ⟨_, h, by rw [hf]; rfl, Nat.le_refl _, Nat.le_refl _, hV, Ag_st2 hA hn⟩) hk
theorem g_aload {B : eB} {d y pc pc2 : Nat} {L : List (Option eV)} {st : List eV} {M : Mm} {Q : Nat → eV → Mm → Prop} {n op i b c : Nat} {z : Int} (hr : Rw y pc pc2 n op i b c) (hop : Nat.ble op 127 = true) (hf : xget eF 7 opT op = f_aload n) (hl : L[i]? = some (some (R z))) (hk : Wp B d y pc2 L (R z :: st) M Q) : Wp B d y pc L st M Q :=
  r_plain hr hop (fun E lo h hV hA => by
    rw [hf]
    unfold f_aload
    dsimp only
    rw [hA i _ hl]
    rfl) hk
theorem g_astore {B : eB} {d y pc pc2 : Nat} {L : List (Option eV)} {st : List eV} {M : Mm} {Q : Nat → eV → Mm → Prop} {n op i b c : Nat} {z : Int} (hr : Rw y pc pc2 n op i b c) (hop : Nat.ble op 127 = true) (hf : xget eF 7 opT op = f_astore n) (hn : ∀ j x, j + 1 = i → L[j]? = some x → nwo x = true) (hk : Wp B d y pc2 (L.set i (some (R z))) st M Q) : Wp B d y pc L (R z :: st) M Q :=
  r_step hr hop (fun E lo h hV hA => ⟨_, h, by rw [hf]; rfl, Nat.le_refl _, Nat.le_refl _, hV, Ag_st1 hA hn⟩) hk
theorem wk_il0 {B : eB} {d y pc pc2 : Nat} {st : List eV} {M : Mm} {Q : Nat → eV → Mm → Prop} {r : List (Option eV)} {z : Int} {b c : Nat} (hr : Rw y pc pc2 1 10 0 b c) (hk : Wp B d y pc2 (some (I z) :: r) (I z :: st) M Q) : Wp B d y pc (some (I z) :: r) st M Q := g_iload hr rfl rfl rfl hk
theorem wk_il1 {B : eB} {d y pc pc2 : Nat} {st : List eV} {M : Mm} {Q : Nat → eV → Mm → Prop} {x0 : Option eV} {r : List (Option eV)} {z : Int} {b c : Nat} (hr : Rw y pc pc2 1 10 1 b c) (hk : Wp B d y pc2 (x0 :: some (I z) :: r) (I z :: st) M Q) : Wp B d y pc (x0 :: some (I z) :: r) st M Q := g_iload hr rfl rfl rfl hk
theorem wk_il2 {B : eB} {d y pc pc2 : Nat} {st : List eV} {M : Mm} {Q : Nat → eV → Mm → Prop} {x0 x1 : Option eV} {r : List (Option eV)} {z : Int} {b c : Nat} (hr : Rw y pc pc2 1 10 2 b c) (hk : Wp B d y pc2 (x0 :: x1 :: some (I z) :: r) (I z :: st) M Q) : Wp B d y pc (x0 :: x1 :: some (I z) :: r) st M Q := g_iload hr rfl rfl rfl hk
theorem wk_il3 {B : eB} {d y pc pc2 : Nat} {st : List eV} {M : Mm} {Q : Nat → eV → Mm → Prop} {x0 x1 x2 : Option eV} {r : List (Option eV)} {z : Int} {b c : Nat} (hr : Rw y pc pc2 1 10 3 b c) (hk : Wp B d y pc2 (x0 :: x1 :: x2 :: some (I z) :: r) (I z :: st) M Q) : Wp B d y pc (x0 :: x1 :: x2 :: some (I z) :: r) st M Q := g_iload hr rfl rfl rfl hk
theorem wk_il4 {B : eB} {d y pc pc2 : Nat} {st : List eV} {M : Mm} {Q : Nat → eV → Mm → Prop} {x0 x1 x2 x3 : Option eV} {r : List (Option eV)} {z : Int} {b c : Nat} (hr : Rw y pc pc2 2 11 4 b c) (hk : Wp B d y pc2 (x0 :: x1 :: x2 :: x3 :: some (I z) :: r) (I z :: st) M Q) : Wp B d y pc (x0 :: x1 :: x2 :: x3 :: some (I z) :: r) st M Q := g_iload hr rfl rfl rfl hk
theorem wk_il5 {B : eB} {d y pc pc2 : Nat} {st : List eV} {M : Mm} {Q : Nat → eV → Mm → Prop} {x0 x1 x2 x3 x4 : Option eV} {r : List (Option eV)} {z : Int} {b c : Nat} (hr : Rw y pc pc2 2 11 5 b c) (hk : Wp B d y pc2 (x0 :: x1 :: x2 :: x3 :: x4 :: some (I z) :: r) (I z :: st) M Q) : Wp B d y pc (x0 :: x1 :: x2 :: x3 :: x4 :: some (I z) :: r) st M Q := g_iload hr rfl rfl rfl hk
theorem wk_il6 {B : eB} {d y pc pc2 : Nat} {st : List eV} {M : Mm} {Q : Nat → eV → Mm → Prop} {x0 x1 x2 x3 x4 x5 : Option eV} {r : List (Option eV)} {z : Int} {b c : Nat} (hr : Rw y pc pc2 2 11 6 b c) (hk : Wp B d y pc2 (x0 :: x1 :: x2 :: x3 :: x4 :: x5 :: some (I z) :: r) (I z :: st) M Q) : Wp B d y pc (x0 :: x1 :: x2 :: x3 :: x4 :: x5 :: some (I z) :: r) st M Q := g_iload hr rfl rfl rfl hk
theorem wk_il7 {B : eB} {d y pc pc2 : Nat} {st : List eV} {M : Mm} {Q : Nat → eV → Mm → Prop} {x0 x1 x2 x3 x4 x5 x6 : Option eV} {r : List (Option eV)} {z : Int} {b c : Nat} (hr : Rw y pc pc2 2 11 7 b c) (hk : Wp B d y pc2 (x0 :: x1 :: x2 :: x3 :: x4 :: x5 :: x6 :: some (I z) :: r) (I z :: st) M Q) : Wp B d y pc (x0 :: x1 :: x2 :: x3 :: x4 :: x5 :: x6 :: some (I z) :: r) st M Q := g_iload hr rfl rfl rfl hk
theorem wk_il8 {B : eB} {d y pc pc2 : Nat} {st : List eV} {M : Mm} {Q : Nat → eV → Mm → Prop} {x0 x1 x2 x3 x4 x5 x6 x7 : Option eV} {r : List (Option eV)} {z : Int} {b c : Nat} (hr : Rw y pc pc2 2 11 8 b c) (hk : Wp B d y pc2 (x0 :: x1 :: x2 :: x3 :: x4 :: x5 :: x6 :: x7 :: some (I z) :: r) (I z :: st) M Q) : Wp B d y pc (x0 :: x1 :: x2 :: x3 :: x4 :: x5 :: x6 :: x7 :: some (I z) :: r) st M Q := g_iload hr rfl rfl rfl hk
theorem wk_il9 {B : eB} {d y pc pc2 : Nat} {st : List eV} {M : Mm} {Q : Nat → eV → Mm → Prop} {x0 x1 x2 x3 x4 x5 x6 x7 x8 : Option eV} {r : List (Option eV)} {z : Int} {b c : Nat} (hr : Rw y pc pc2 2 11 9 b c) (hk : Wp B d y pc2 (x0 :: x1 :: x2 :: x3 :: x4 :: x5 :: x6 :: x7 :: x8 :: some (I z) :: r) (I z :: st) M Q) : Wp B d y pc (x0 :: x1 :: x2 :: x3 :: x4 :: x5 :: x6 :: x7 :: x8 :: some (I z) :: r) st M Q := g_iload hr rfl rfl rfl hk
theorem wk_il10 {B : eB} {d y pc pc2 : Nat} {st : List eV} {M : Mm} {Q : Nat → eV → Mm → Prop} {x0 x1 x2 x3 x4 x5 x6 x7 x8 x9 : Option eV} {r : List (Option eV)} {z : Int} {b c : Nat} (hr : Rw y pc pc2 2 11 10 b c) (hk : Wp B d y pc2 (x0 :: x1 :: x2 :: x3 :: x4 :: x5 :: x6 :: x7 :: x8 :: x9 :: some (I z) :: r) (I z :: st) M Q) : Wp B d y pc (x0 :: x1 :: x2 :: x3 :: x4 :: x5 :: x6 :: x7 :: x8 :: x9 :: some (I z) :: r) st M Q := g_iload hr rfl rfl rfl hk
theorem wk_il11 {B : eB} {d y pc pc2 : Nat} {st : List eV} {M : Mm} {Q : Nat → eV → Mm → Prop} {x0 x1 x2 x3 x4 x5 x6 x7 x8 x9 x10 : Option eV} {r : List (Option eV)} {z : Int} {b c : Nat} (hr : Rw y pc pc2 2 11 11 b c) (hk : Wp B d y pc2 (x0 :: x1 :: x2 :: x3 :: x4 :: x5 :: x6 :: x7 :: x8 :: x9 :: x10 :: some (I z) :: r) (I z :: st) M Q) : Wp B d y pc (x0 :: x1 :: x2 :: x3 :: x4 :: x5 :: x6 :: x7 :: x8 :: x9 :: x10 :: some (I z) :: r) st M Q := g_iload hr rfl rfl rfl hk
theorem wk_ll0 {B : eB} {d y pc pc2 : Nat} {st : List eV} {M : Mm} {Q : Nat → eV → Mm → Prop} {r : List (Option eV)} {z : Nat} {b c : Nat} (hr : Rw y pc pc2 1 12 0 b c) (hk : Wp B d y pc2 (some (J z) :: r) (J z :: st) M Q) : Wp B d y pc (some (J z) :: r) st M Q := g_lload hr rfl rfl rfl hk
theorem wk_ll3 {B : eB} {d y pc pc2 : Nat} {st : List eV} {M : Mm} {Q : Nat → eV → Mm → Prop} {x0 x1 x2 : Option eV} {r : List (Option eV)} {z : Nat} {b c : Nat} (hr : Rw y pc pc2 1 12 3 b c) (hk : Wp B d y pc2 (x0 :: x1 :: x2 :: some (J z) :: r) (J z :: st) M Q) : Wp B d y pc (x0 :: x1 :: x2 :: some (J z) :: r) st M Q := g_lload hr rfl rfl rfl hk
theorem wk_ll4 {B : eB} {d y pc pc2 : Nat} {st : List eV} {M : Mm} {Q : Nat → eV → Mm → Prop} {x0 x1 x2 x3 : Option eV} {r : List (Option eV)} {z : Nat} {b c : Nat} (hr : Rw y pc pc2 2 13 4 b c) (hk : Wp B d y pc2 (x0 :: x1 :: x2 :: x3 :: some (J z) :: r) (J z :: st) M Q) : Wp B d y pc (x0 :: x1 :: x2 :: x3 :: some (J z) :: r) st M Q := g_lload hr rfl rfl rfl hk
theorem wk_ll5 {B : eB} {d y pc pc2 : Nat} {st : List eV} {M : Mm} {Q : Nat → eV → Mm → Prop} {x0 x1 x2 x3 x4 : Option eV} {r : List (Option eV)} {z : Nat} {b c : Nat} (hr : Rw y pc pc2 2 13 5 b c) (hk : Wp B d y pc2 (x0 :: x1 :: x2 :: x3 :: x4 :: some (J z) :: r) (J z :: st) M Q) : Wp B d y pc (x0 :: x1 :: x2 :: x3 :: x4 :: some (J z) :: r) st M Q := g_lload hr rfl rfl rfl hk
theorem wk_ll6 {B : eB} {d y pc pc2 : Nat} {st : List eV} {M : Mm} {Q : Nat → eV → Mm → Prop} {x0 x1 x2 x3 x4 x5 : Option eV} {r : List (Option eV)} {z : Nat} {b c : Nat} (hr : Rw y pc pc2 2 13 6 b c) (hk : Wp B d y pc2 (x0 :: x1 :: x2 :: x3 :: x4 :: x5 :: some (J z) :: r) (J z :: st) M Q) : Wp B d y pc (x0 :: x1 :: x2 :: x3 :: x4 :: x5 :: some (J z) :: r) st M Q := g_lload hr rfl rfl rfl hk
theorem wk_ll8 {B : eB} {d y pc pc2 : Nat} {st : List eV} {M : Mm} {Q : Nat → eV → Mm → Prop} {x0 x1 x2 x3 x4 x5 x6 x7 : Option eV} {r : List (Option eV)} {z : Nat} {b c : Nat} (hr : Rw y pc pc2 2 13 8 b c) (hk : Wp B d y pc2 (x0 :: x1 :: x2 :: x3 :: x4 :: x5 :: x6 :: x7 :: some (J z) :: r) (J z :: st) M Q) : Wp B d y pc (x0 :: x1 :: x2 :: x3 :: x4 :: x5 :: x6 :: x7 :: some (J z) :: r) st M Q := g_lload hr rfl rfl rfl hk
theorem wk_al0 {B : eB} {d y pc pc2 : Nat} {st : List eV} {M : Mm} {Q : Nat → eV → Mm → Prop} {r : List (Option eV)} {z : Int} {b c : Nat} (hr : Rw y pc pc2 1 14 0 b c) (hk : Wp B d y pc2 (some (R z) :: r) (R z :: st) M Q) : Wp B d y pc (some (R z) :: r) st M Q := g_aload hr rfl rfl rfl hk
theorem wk_al1 {B : eB} {d y pc pc2 : Nat} {st : List eV} {M : Mm} {Q : Nat → eV → Mm → Prop} {x0 : Option eV} {r : List (Option eV)} {z : Int} {b c : Nat} (hr : Rw y pc pc2 1 14 1 b c) (hk : Wp B d y pc2 (x0 :: some (R z) :: r) (R z :: st) M Q) : Wp B d y pc (x0 :: some (R z) :: r) st M Q := g_aload hr rfl rfl rfl hk
theorem wk_al2 {B : eB} {d y pc pc2 : Nat} {st : List eV} {M : Mm} {Q : Nat → eV → Mm → Prop} {x0 x1 : Option eV} {r : List (Option eV)} {z : Int} {b c : Nat} (hr : Rw y pc pc2 1 14 2 b c) (hk : Wp B d y pc2 (x0 :: x1 :: some (R z) :: r) (R z :: st) M Q) : Wp B d y pc (x0 :: x1 :: some (R z) :: r) st M Q := g_aload hr rfl rfl rfl hk
theorem wk_al3 {B : eB} {d y pc pc2 : Nat} {st : List eV} {M : Mm} {Q : Nat → eV → Mm → Prop} {x0 x1 x2 : Option eV} {r : List (Option eV)} {z : Int} {b c : Nat} (hr : Rw y pc pc2 1 14 3 b c) (hk : Wp B d y pc2 (x0 :: x1 :: x2 :: some (R z) :: r) (R z :: st) M Q) : Wp B d y pc (x0 :: x1 :: x2 :: some (R z) :: r) st M Q := g_aload hr rfl rfl rfl hk
theorem wk_al4 {B : eB} {d y pc pc2 : Nat} {st : List eV} {M : Mm} {Q : Nat → eV → Mm → Prop} {x0 x1 x2 x3 : Option eV} {r : List (Option eV)} {z : Int} {b c : Nat} (hr : Rw y pc pc2 2 15 4 b c) (hk : Wp B d y pc2 (x0 :: x1 :: x2 :: x3 :: some (R z) :: r) (R z :: st) M Q) : Wp B d y pc (x0 :: x1 :: x2 :: x3 :: some (R z) :: r) st M Q := g_aload hr rfl rfl rfl hk
theorem wk_al5 {B : eB} {d y pc pc2 : Nat} {st : List eV} {M : Mm} {Q : Nat → eV → Mm → Prop} {x0 x1 x2 x3 x4 : Option eV} {r : List (Option eV)} {z : Int} {b c : Nat} (hr : Rw y pc pc2 2 15 5 b c) (hk : Wp B d y pc2 (x0 :: x1 :: x2 :: x3 :: x4 :: some (R z) :: r) (R z :: st) M Q) : Wp B d y pc (x0 :: x1 :: x2 :: x3 :: x4 :: some (R z) :: r) st M Q := g_aload hr rfl rfl rfl hk
theorem wk_al6 {B : eB} {d y pc pc2 : Nat} {st : List eV} {M : Mm} {Q : Nat → eV → Mm → Prop} {x0 x1 x2 x3 x4 x5 : Option eV} {r : List (Option eV)} {z : Int} {b c : Nat} (hr : Rw y pc pc2 2 15 6 b c) (hk : Wp B d y pc2 (x0 :: x1 :: x2 :: x3 :: x4 :: x5 :: some (R z) :: r) (R z :: st) M Q) : Wp B d y pc (x0 :: x1 :: x2 :: x3 :: x4 :: x5 :: some (R z) :: r) st M Q := g_aload hr rfl rfl rfl hk
theorem wk_al7 {B : eB} {d y pc pc2 : Nat} {st : List eV} {M : Mm} {Q : Nat → eV → Mm → Prop} {x0 x1 x2 x3 x4 x5 x6 : Option eV} {r : List (Option eV)} {z : Int} {b c : Nat} (hr : Rw y pc pc2 2 15 7 b c) (hk : Wp B d y pc2 (x0 :: x1 :: x2 :: x3 :: x4 :: x5 :: x6 :: some (R z) :: r) (R z :: st) M Q) : Wp B d y pc (x0 :: x1 :: x2 :: x3 :: x4 :: x5 :: x6 :: some (R z) :: r) st M Q := g_aload hr rfl rfl rfl hk
theorem wk_al8 {B : eB} {d y pc pc2 : Nat} {st : List eV} {M : Mm} {Q : Nat → eV → Mm → Prop} {x0 x1 x2 x3 x4 x5 x6 x7 : Option eV} {r : List (Option eV)} {z : Int} {b c : Nat} (hr : Rw y pc pc2 2 15 8 b c) (hk : Wp B d y pc2 (x0 :: x1 :: x2 :: x3 :: x4 :: x5 :: x6 :: x7 :: some (R z) :: r) (R z :: st) M Q) : Wp B d y pc (x0 :: x1 :: x2 :: x3 :: x4 :: x5 :: x6 :: x7 :: some (R z) :: r) st M Q := g_aload hr rfl rfl rfl hk
theorem wk_is0 {B : eB} {d y pc pc2 : Nat} {st : List eV} {M : Mm} {Q : Nat → eV → Mm → Prop} {x0 : Option eV} {r : List (Option eV)} {z : Int} {b c : Nat} (hr : Rw y pc pc2 1 16 0 b c) (hk : Wp B d y pc2 (some (I z) :: r) st M Q) : Wp B d y pc (x0 :: r) (I z :: st) M Q := g_istore hr rfl rfl (fun j x h => by omega) hk
theorem wk_is1 {B : eB} {d y pc pc2 : Nat} {st : List eV} {M : Mm} {Q : Nat → eV → Mm → Prop} {x0 x1 : Option eV} {r : List (Option eV)} {z : Int} {b c : Nat} (hr : Rw y pc pc2 1 16 1 b c) (hn : nwo x0 = true) (hk : Wp B d y pc2 (x0 :: some (I z) :: r) st M Q) : Wp B d y pc (x0 :: x1 :: r) (I z :: st) M Q := g_istore hr rfl rfl (fun j x h h2 => by
  obtain rfl : j = 0 := by omega
  cases h2
  exact hn) hk
theorem wk_is2 {B : eB} {d y pc pc2 : Nat} {st : List eV} {M : Mm} {Q : Nat → eV → Mm → Prop} {x0 x1 x2 : Option eV} {r : List (Option eV)} {z : Int} {b c : Nat} (hr : Rw y pc pc2 1 16 2 b c) (hn : nwo x1 = true) (hk : Wp B d y pc2 (x0 :: x1 :: some (I z) :: r) st M Q) : Wp B d y pc (x0 :: x1 :: x2 :: r) (I z :: st) M Q := g_istore hr rfl rfl (fun j x h h2 => by
  obtain rfl : j = 1 := by omega
  cases h2
  exact hn) hk
theorem wk_is3 {B : eB} {d y pc pc2 : Nat} {st : List eV} {M : Mm} {Q : Nat → eV → Mm → Prop} {x0 x1 x2 x3 : Option eV} {r : List (Option eV)} {z : Int} {b c : Nat} (hr : Rw y pc pc2 1 16 3 b c) (hn : nwo x2 = true) (hk : Wp B d y pc2 (x0 :: x1 :: x2 :: some (I z) :: r) st M Q) : Wp B d y pc (x0 :: x1 :: x2 :: x3 :: r) (I z :: st) M Q := g_istore hr rfl rfl (fun j x h h2 => by
  obtain rfl : j = 2 := by omega
  cases h2
  exact hn) hk
theorem wk_is4 {B : eB} {d y pc pc2 : Nat} {st : List eV} {M : Mm} {Q : Nat → eV → Mm → Prop} {x0 x1 x2 x3 x4 : Option eV} {r : List (Option eV)} {z : Int} {b c : Nat} (hr : Rw y pc pc2 2 17 4 b c) (hn : nwo x3 = true) (hk : Wp B d y pc2 (x0 :: x1 :: x2 :: x3 :: some (I z) :: r) st M Q) : Wp B d y pc (x0 :: x1 :: x2 :: x3 :: x4 :: r) (I z :: st) M Q := g_istore hr rfl rfl (fun j x h h2 => by
  obtain rfl : j = 3 := by omega
  cases h2
  exact hn) hk
theorem wk_is5 {B : eB} {d y pc pc2 : Nat} {st : List eV} {M : Mm} {Q : Nat → eV → Mm → Prop} {x0 x1 x2 x3 x4 x5 : Option eV} {r : List (Option eV)} {z : Int} {b c : Nat} (hr : Rw y pc pc2 2 17 5 b c) (hn : nwo x4 = true) (hk : Wp B d y pc2 (x0 :: x1 :: x2 :: x3 :: x4 :: some (I z) :: r) st M Q) : Wp B d y pc (x0 :: x1 :: x2 :: x3 :: x4 :: x5 :: r) (I z :: st) M Q := g_istore hr rfl rfl (fun j x h h2 => by
  obtain rfl : j = 4 := by omega
  cases h2
  exact hn) hk
theorem wk_is6 {B : eB} {d y pc pc2 : Nat} {st : List eV} {M : Mm} {Q : Nat → eV → Mm → Prop} {x0 x1 x2 x3 x4 x5 x6 : Option eV} {r : List (Option eV)} {z : Int} {b c : Nat} (hr : Rw y pc pc2 2 17 6 b c) (hn : nwo x5 = true) (hk : Wp B d y pc2 (x0 :: x1 :: x2 :: x3 :: x4 :: x5 :: some (I z) :: r) st M Q) : Wp B d y pc (x0 :: x1 :: x2 :: x3 :: x4 :: x5 :: x6 :: r) (I z :: st) M Q := g_istore hr rfl rfl (fun j x h h2 => by
  obtain rfl : j = 5 := by omega
  cases h2
  exact hn) hk
theorem wk_is7 {B : eB} {d y pc pc2 : Nat} {st : List eV} {M : Mm} {Q : Nat → eV → Mm → Prop} {x0 x1 x2 x3 x4 x5 x6 x7 : Option eV} {r : List (Option eV)} {z : Int} {b c : Nat} (hr : Rw y pc pc2 2 17 7 b c) (hn : nwo x6 = true) (hk : Wp B d y pc2 (x0 :: x1 :: x2 :: x3 :: x4 :: x5 :: x6 :: some (I z) :: r) st M Q) : Wp B d y pc (x0 :: x1 :: x2 :: x3 :: x4 :: x5 :: x6 :: x7 :: r) (I z :: st) M Q := g_istore hr rfl rfl (fun j x h h2 => by
  obtain rfl : j = 6 := by omega
  cases h2
  exact hn) hk
theorem wk_is8 {B : eB} {d y pc pc2 : Nat} {st : List eV} {M : Mm} {Q : Nat → eV → Mm → Prop} {x0 x1 x2 x3 x4 x5 x6 x7 x8 : Option eV} {r : List (Option eV)} {z : Int} {b c : Nat} (hr : Rw y pc pc2 2 17 8 b c) (hn : nwo x7 = true) (hk : Wp B d y pc2 (x0 :: x1 :: x2 :: x3 :: x4 :: x5 :: x6 :: x7 :: some (I z) :: r) st M Q) : Wp B d y pc (x0 :: x1 :: x2 :: x3 :: x4 :: x5 :: x6 :: x7 :: x8 :: r) (I z :: st) M Q := g_istore hr rfl rfl (fun j x h h2 => by
  obtain rfl : j = 7 := by omega
  cases h2
  exact hn) hk
theorem wk_is9 {B : eB} {d y pc pc2 : Nat} {st : List eV} {M : Mm} {Q : Nat → eV → Mm → Prop} {x0 x1 x2 x3 x4 x5 x6 x7 x8 x9 : Option eV} {r : List (Option eV)} {z : Int} {b c : Nat} (hr : Rw y pc pc2 2 17 9 b c) (hn : nwo x8 = true) (hk : Wp B d y pc2 (x0 :: x1 :: x2 :: x3 :: x4 :: x5 :: x6 :: x7 :: x8 :: some (I z) :: r) st M Q) : Wp B d y pc (x0 :: x1 :: x2 :: x3 :: x4 :: x5 :: x6 :: x7 :: x8 :: x9 :: r) (I z :: st) M Q := g_istore hr rfl rfl (fun j x h h2 => by
  obtain rfl : j = 8 := by omega
  cases h2
  exact hn) hk
theorem wk_is10 {B : eB} {d y pc pc2 : Nat} {st : List eV} {M : Mm} {Q : Nat → eV → Mm → Prop} {x0 x1 x2 x3 x4 x5 x6 x7 x8 x9 x10 : Option eV} {r : List (Option eV)} {z : Int} {b c : Nat} (hr : Rw y pc pc2 2 17 10 b c) (hn : nwo x9 = true) (hk : Wp B d y pc2 (x0 :: x1 :: x2 :: x3 :: x4 :: x5 :: x6 :: x7 :: x8 :: x9 :: some (I z) :: r) st M Q) : Wp B d y pc (x0 :: x1 :: x2 :: x3 :: x4 :: x5 :: x6 :: x7 :: x8 :: x9 :: x10 :: r) (I z :: st) M Q := g_istore hr rfl rfl (fun j x h h2 => by
  obtain rfl : j = 9 := by omega
  cases h2
  exact hn) hk
theorem wk_is11 {B : eB} {d y pc pc2 : Nat} {st : List eV} {M : Mm} {Q : Nat → eV → Mm → Prop} {x0 x1 x2 x3 x4 x5 x6 x7 x8 x9 x10 x11 : Option eV} {r : List (Option eV)} {z : Int} {b c : Nat} (hr : Rw y pc pc2 2 17 11 b c) (hn : nwo x10 = true) (hk : Wp B d y pc2 (x0 :: x1 :: x2 :: x3 :: x4 :: x5 :: x6 :: x7 :: x8 :: x9 :: x10 :: some (I z) :: r) st M Q) : Wp B d y pc (x0 :: x1 :: x2 :: x3 :: x4 :: x5 :: x6 :: x7 :: x8 :: x9 :: x10 :: x11 :: r) (I z :: st) M Q := g_istore hr rfl rfl (fun j x h h2 => by
  obtain rfl : j = 10 := by omega
  cases h2
  exact hn) hk
theorem wk_ls0 {B : eB} {d y pc pc2 : Nat} {st : List eV} {M : Mm} {Q : Nat → eV → Mm → Prop} {x0 x1 : Option eV} {r : List (Option eV)} {z : Nat} {b c : Nat} (hr : Rw y pc pc2 1 18 0 b c) (hk : Wp B d y pc2 (some (J z) :: none :: r) st M Q) : Wp B d y pc (x0 :: x1 :: r) (J z :: st) M Q := g_lstore hr rfl rfl (fun j x h => by omega) hk
theorem wk_ls3 {B : eB} {d y pc pc2 : Nat} {st : List eV} {M : Mm} {Q : Nat → eV → Mm → Prop} {x0 x1 x2 x3 x4 : Option eV} {r : List (Option eV)} {z : Nat} {b c : Nat} (hr : Rw y pc pc2 1 18 3 b c) (hn : nwo x2 = true) (hk : Wp B d y pc2 (x0 :: x1 :: x2 :: some (J z) :: none :: r) st M Q) : Wp B d y pc (x0 :: x1 :: x2 :: x3 :: x4 :: r) (J z :: st) M Q := g_lstore hr rfl rfl (fun j x h h2 => by
  obtain rfl : j = 2 := by omega
  cases h2
  exact hn) hk
theorem wk_ls4 {B : eB} {d y pc pc2 : Nat} {st : List eV} {M : Mm} {Q : Nat → eV → Mm → Prop} {x0 x1 x2 x3 x4 x5 : Option eV} {r : List (Option eV)} {z : Nat} {b c : Nat} (hr : Rw y pc pc2 2 19 4 b c) (hn : nwo x3 = true) (hk : Wp B d y pc2 (x0 :: x1 :: x2 :: x3 :: some (J z) :: none :: r) st M Q) : Wp B d y pc (x0 :: x1 :: x2 :: x3 :: x4 :: x5 :: r) (J z :: st) M Q := g_lstore hr rfl rfl (fun j x h h2 => by
  obtain rfl : j = 3 := by omega
  cases h2
  exact hn) hk
theorem wk_ls5 {B : eB} {d y pc pc2 : Nat} {st : List eV} {M : Mm} {Q : Nat → eV → Mm → Prop} {x0 x1 x2 x3 x4 x5 x6 : Option eV} {r : List (Option eV)} {z : Nat} {b c : Nat} (hr : Rw y pc pc2 2 19 5 b c) (hn : nwo x4 = true) (hk : Wp B d y pc2 (x0 :: x1 :: x2 :: x3 :: x4 :: some (J z) :: none :: r) st M Q) : Wp B d y pc (x0 :: x1 :: x2 :: x3 :: x4 :: x5 :: x6 :: r) (J z :: st) M Q := g_lstore hr rfl rfl (fun j x h h2 => by
  obtain rfl : j = 4 := by omega
  cases h2
  exact hn) hk
theorem wk_ls6 {B : eB} {d y pc pc2 : Nat} {st : List eV} {M : Mm} {Q : Nat → eV → Mm → Prop} {x0 x1 x2 x3 x4 x5 x6 x7 : Option eV} {r : List (Option eV)} {z : Nat} {b c : Nat} (hr : Rw y pc pc2 2 19 6 b c) (hn : nwo x5 = true) (hk : Wp B d y pc2 (x0 :: x1 :: x2 :: x3 :: x4 :: x5 :: some (J z) :: none :: r) st M Q) : Wp B d y pc (x0 :: x1 :: x2 :: x3 :: x4 :: x5 :: x6 :: x7 :: r) (J z :: st) M Q := g_lstore hr rfl rfl (fun j x h h2 => by
  obtain rfl : j = 5 := by omega
  cases h2
  exact hn) hk
theorem wk_ls8 {B : eB} {d y pc pc2 : Nat} {st : List eV} {M : Mm} {Q : Nat → eV → Mm → Prop} {x0 x1 x2 x3 x4 x5 x6 x7 x8 x9 : Option eV} {r : List (Option eV)} {z : Nat} {b c : Nat} (hr : Rw y pc pc2 2 19 8 b c) (hn : nwo x7 = true) (hk : Wp B d y pc2 (x0 :: x1 :: x2 :: x3 :: x4 :: x5 :: x6 :: x7 :: some (J z) :: none :: r) st M Q) : Wp B d y pc (x0 :: x1 :: x2 :: x3 :: x4 :: x5 :: x6 :: x7 :: x8 :: x9 :: r) (J z :: st) M Q := g_lstore hr rfl rfl (fun j x h h2 => by
  obtain rfl : j = 7 := by omega
  cases h2
  exact hn) hk
theorem wk_as3 {B : eB} {d y pc pc2 : Nat} {st : List eV} {M : Mm} {Q : Nat → eV → Mm → Prop} {x0 x1 x2 x3 : Option eV} {r : List (Option eV)} {z : Int} {b c : Nat} (hr : Rw y pc pc2 1 20 3 b c) (hn : nwo x2 = true) (hk : Wp B d y pc2 (x0 :: x1 :: x2 :: some (R z) :: r) st M Q) : Wp B d y pc (x0 :: x1 :: x2 :: x3 :: r) (R z :: st) M Q := g_astore hr rfl rfl (fun j x h h2 => by
  obtain rfl : j = 2 := by omega
  cases h2
  exact hn) hk
theorem wk_as4 {B : eB} {d y pc pc2 : Nat} {st : List eV} {M : Mm} {Q : Nat → eV → Mm → Prop} {x0 x1 x2 x3 x4 : Option eV} {r : List (Option eV)} {z : Int} {b c : Nat} (hr : Rw y pc pc2 2 21 4 b c) (hn : nwo x3 = true) (hk : Wp B d y pc2 (x0 :: x1 :: x2 :: x3 :: some (R z) :: r) st M Q) : Wp B d y pc (x0 :: x1 :: x2 :: x3 :: x4 :: r) (R z :: st) M Q := g_astore hr rfl rfl (fun j x h h2 => by
  obtain rfl : j = 3 := by omega
  cases h2
  exact hn) hk
theorem wk_as5 {B : eB} {d y pc pc2 : Nat} {st : List eV} {M : Mm} {Q : Nat → eV → Mm → Prop} {x0 x1 x2 x3 x4 x5 : Option eV} {r : List (Option eV)} {z : Int} {b c : Nat} (hr : Rw y pc pc2 2 21 5 b c) (hn : nwo x4 = true) (hk : Wp B d y pc2 (x0 :: x1 :: x2 :: x3 :: x4 :: some (R z) :: r) st M Q) : Wp B d y pc (x0 :: x1 :: x2 :: x3 :: x4 :: x5 :: r) (R z :: st) M Q := g_astore hr rfl rfl (fun j x h h2 => by
  obtain rfl : j = 4 := by omega
  cases h2
  exact hn) hk
theorem wk_as6 {B : eB} {d y pc pc2 : Nat} {st : List eV} {M : Mm} {Q : Nat → eV → Mm → Prop} {x0 x1 x2 x3 x4 x5 x6 : Option eV} {r : List (Option eV)} {z : Int} {b c : Nat} (hr : Rw y pc pc2 2 21 6 b c) (hn : nwo x5 = true) (hk : Wp B d y pc2 (x0 :: x1 :: x2 :: x3 :: x4 :: x5 :: some (R z) :: r) st M Q) : Wp B d y pc (x0 :: x1 :: x2 :: x3 :: x4 :: x5 :: x6 :: r) (R z :: st) M Q := g_astore hr rfl rfl (fun j x h h2 => by
  obtain rfl : j = 5 := by omega
  cases h2
  exact hn) hk
theorem wk_as7 {B : eB} {d y pc pc2 : Nat} {st : List eV} {M : Mm} {Q : Nat → eV → Mm → Prop} {x0 x1 x2 x3 x4 x5 x6 x7 : Option eV} {r : List (Option eV)} {z : Int} {b c : Nat} (hr : Rw y pc pc2 2 21 7 b c) (hn : nwo x6 = true) (hk : Wp B d y pc2 (x0 :: x1 :: x2 :: x3 :: x4 :: x5 :: x6 :: some (R z) :: r) st M Q) : Wp B d y pc (x0 :: x1 :: x2 :: x3 :: x4 :: x5 :: x6 :: x7 :: r) (R z :: st) M Q := g_astore hr rfl rfl (fun j x h h2 => by
  obtain rfl : j = 6 := by omega
  cases h2
  exact hn) hk
theorem wk_as8 {B : eB} {d y pc pc2 : Nat} {st : List eV} {M : Mm} {Q : Nat → eV → Mm → Prop} {x0 x1 x2 x3 x4 x5 x6 x7 x8 : Option eV} {r : List (Option eV)} {z : Int} {b c : Nat} (hr : Rw y pc pc2 2 21 8 b c) (hn : nwo x7 = true) (hk : Wp B d y pc2 (x0 :: x1 :: x2 :: x3 :: x4 :: x5 :: x6 :: x7 :: some (R z) :: r) st M Q) : Wp B d y pc (x0 :: x1 :: x2 :: x3 :: x4 :: x5 :: x6 :: x7 :: x8 :: r) (R z :: st) M Q := g_astore hr rfl rfl (fun j x h h2 => by
  obtain rfl : j = 7 := by omega
  cases h2
  exact hn) hk
theorem g_iinc {B : eB} {d y pc pc2 : Nat} {L : List (Option eV)} {st : List eV} {M : Mm} {Q : Nat → eV → Mm → Prop} {i c : Nat} {z w : Int} (hr : Rw y pc pc2 3 22 i (cd w) c) (hl : L[i]? = some (some (I z))) (hn : ∀ j x, j + 1 = i → L[j]? = some x → nwo x = true) (hk : Wp B d y pc2 (L.set i (some (I (z + w)))) st M Q) : Wp B d y pc L st M Q :=
  r_step hr rfl (fun E lo h hV hA => ⟨e_st1 lo i (.inl ((cd z + cd w) % 4294967296)), h, by
    show f_iinc i (cd w) c E B (pc, lo, st, h) = _
    unfold f_iinc
    dsimp only
    rw [hA i _ hl]
    show cond (l32 (cd z)) _ _ = _
    rw [cd_l32]
    rfl, Nat.le_refl _, Nat.le_refl _, hV, by rw [cd_add]; exact Ag_st1 hA hn⟩) hk
theorem wk_inc1 {B : eB} {d y pc pc2 : Nat} {st : List eV} {M : Mm} {Q : Nat → eV → Mm → Prop} {x0 : Option eV} {r : List (Option eV)} {z w : Int} {c : Nat} (hr : Rw y pc pc2 3 22 1 (cd w) c) (hn : nwo x0 = true) (hk : Wp B d y pc2 (x0 :: some (I (z + w)) :: r) st M Q) : Wp B d y pc (x0 :: some (I z) :: r) st M Q := g_iinc hr rfl (fun j x h h2 => by
  obtain rfl : j = 0 := by omega
  cases h2
  exact hn) hk
theorem wk_inc2 {B : eB} {d y pc pc2 : Nat} {st : List eV} {M : Mm} {Q : Nat → eV → Mm → Prop} {x0 x1 : Option eV} {r : List (Option eV)} {z w : Int} {c : Nat} (hr : Rw y pc pc2 3 22 2 (cd w) c) (hn : nwo x1 = true) (hk : Wp B d y pc2 (x0 :: x1 :: some (I (z + w)) :: r) st M Q) : Wp B d y pc (x0 :: x1 :: some (I z) :: r) st M Q := g_iinc hr rfl (fun j x h h2 => by
  obtain rfl : j = 1 := by omega
  cases h2
  exact hn) hk
theorem wk_inc3 {B : eB} {d y pc pc2 : Nat} {st : List eV} {M : Mm} {Q : Nat → eV → Mm → Prop} {x0 x1 x2 : Option eV} {r : List (Option eV)} {z w : Int} {c : Nat} (hr : Rw y pc pc2 3 22 3 (cd w) c) (hn : nwo x2 = true) (hk : Wp B d y pc2 (x0 :: x1 :: x2 :: some (I (z + w)) :: r) st M Q) : Wp B d y pc (x0 :: x1 :: x2 :: some (I z) :: r) st M Q := g_iinc hr rfl (fun j x h h2 => by
  obtain rfl : j = 2 := by omega
  cases h2
  exact hn) hk
theorem wk_inc4 {B : eB} {d y pc pc2 : Nat} {st : List eV} {M : Mm} {Q : Nat → eV → Mm → Prop} {x0 x1 x2 x3 : Option eV} {r : List (Option eV)} {z w : Int} {c : Nat} (hr : Rw y pc pc2 3 22 4 (cd w) c) (hn : nwo x3 = true) (hk : Wp B d y pc2 (x0 :: x1 :: x2 :: x3 :: some (I (z + w)) :: r) st M Q) : Wp B d y pc (x0 :: x1 :: x2 :: x3 :: some (I z) :: r) st M Q := g_iinc hr rfl (fun j x h h2 => by
  obtain rfl : j = 3 := by omega
  cases h2
  exact hn) hk
theorem wk_inc5 {B : eB} {d y pc pc2 : Nat} {st : List eV} {M : Mm} {Q : Nat → eV → Mm → Prop} {x0 x1 x2 x3 x4 : Option eV} {r : List (Option eV)} {z w : Int} {c : Nat} (hr : Rw y pc pc2 3 22 5 (cd w) c) (hn : nwo x4 = true) (hk : Wp B d y pc2 (x0 :: x1 :: x2 :: x3 :: x4 :: some (I (z + w)) :: r) st M Q) : Wp B d y pc (x0 :: x1 :: x2 :: x3 :: x4 :: some (I z) :: r) st M Q := g_iinc hr rfl (fun j x h h2 => by
  obtain rfl : j = 4 := by omega
  cases h2
  exact hn) hk
theorem wk_inc6 {B : eB} {d y pc pc2 : Nat} {st : List eV} {M : Mm} {Q : Nat → eV → Mm → Prop} {x0 x1 x2 x3 x4 x5 : Option eV} {r : List (Option eV)} {z w : Int} {c : Nat} (hr : Rw y pc pc2 3 22 6 (cd w) c) (hn : nwo x5 = true) (hk : Wp B d y pc2 (x0 :: x1 :: x2 :: x3 :: x4 :: x5 :: some (I (z + w)) :: r) st M Q) : Wp B d y pc (x0 :: x1 :: x2 :: x3 :: x4 :: x5 :: some (I z) :: r) st M Q := g_iinc hr rfl (fun j x h h2 => by
  obtain rfl : j = 5 := by omega
  cases h2
  exact hn) hk
theorem wk_inc7 {B : eB} {d y pc pc2 : Nat} {st : List eV} {M : Mm} {Q : Nat → eV → Mm → Prop} {x0 x1 x2 x3 x4 x5 x6 : Option eV} {r : List (Option eV)} {z w : Int} {c : Nat} (hr : Rw y pc pc2 3 22 7 (cd w) c) (hn : nwo x6 = true) (hk : Wp B d y pc2 (x0 :: x1 :: x2 :: x3 :: x4 :: x5 :: x6 :: some (I (z + w)) :: r) st M Q) : Wp B d y pc (x0 :: x1 :: x2 :: x3 :: x4 :: x5 :: x6 :: some (I z) :: r) st M Q := g_iinc hr rfl (fun j x h h2 => by
  obtain rfl : j = 6 := by omega
  cases h2
  exact hn) hk
theorem wk_inc8 {B : eB} {d y pc pc2 : Nat} {st : List eV} {M : Mm} {Q : Nat → eV → Mm → Prop} {x0 x1 x2 x3 x4 x5 x6 x7 : Option eV} {r : List (Option eV)} {z w : Int} {c : Nat} (hr : Rw y pc pc2 3 22 8 (cd w) c) (hn : nwo x7 = true) (hk : Wp B d y pc2 (x0 :: x1 :: x2 :: x3 :: x4 :: x5 :: x6 :: x7 :: some (I (z + w)) :: r) st M Q) : Wp B d y pc (x0 :: x1 :: x2 :: x3 :: x4 :: x5 :: x6 :: x7 :: some (I z) :: r) st M Q := g_iinc hr rfl (fun j x h h2 => by
  obtain rfl : j = 7 := by omega
  cases h2
  exact hn) hk
theorem wk_inc9 {B : eB} {d y pc pc2 : Nat} {st : List eV} {M : Mm} {Q : Nat → eV → Mm → Prop} {x0 x1 x2 x3 x4 x5 x6 x7 x8 : Option eV} {r : List (Option eV)} {z w : Int} {c : Nat} (hr : Rw y pc pc2 3 22 9 (cd w) c) (hn : nwo x8 = true) (hk : Wp B d y pc2 (x0 :: x1 :: x2 :: x3 :: x4 :: x5 :: x6 :: x7 :: x8 :: some (I (z + w)) :: r) st M Q) : Wp B d y pc (x0 :: x1 :: x2 :: x3 :: x4 :: x5 :: x6 :: x7 :: x8 :: some (I z) :: r) st M Q := g_iinc hr rfl (fun j x h h2 => by
  obtain rfl : j = 8 := by omega
  cases h2
  exact hn) hk
theorem wk_iadd {B : eB} {d y pc pc2 : Nat} {L : List (Option eV)} {st : List eV} {M : Mm} {Q : Nat → eV → Mm → Prop} {a b c : Nat} {z w : Int} (hr : Rw y pc pc2 1 30 a b c) (hk : Wp B d y pc2 L (I (z + w) :: st) M Q) : Wp B d y pc L (I w :: I z :: st) M Q :=
  r_plain hr rfl (fun E lo h _ _ => by
    show cond (l32 (cd z) && l32 (cd w) && true) (eN (pc + 1) lo (.inl ((cd z + cd w) % 4294967296) :: st) h) none = _
    rw [cd_l32, cd_l32, cd_add]
    rfl) hk
theorem wk_isub {B : eB} {d y pc pc2 : Nat} {L : List (Option eV)} {st : List eV} {M : Mm} {Q : Nat → eV → Mm → Prop} {a b c : Nat} {z w : Int} (hr : Rw y pc pc2 1 31 a b c) (hk : Wp B d y pc2 L (I (z - w) :: st) M Q) : Wp B d y pc L (I w :: I z :: st) M Q :=
  r_plain hr rfl (fun E lo h _ _ => by
    show cond (l32 (cd z) && l32 (cd w) && true) (eN (pc + 1) lo (.inl ((cd z + (4294967296 - cd w)) % 4294967296) :: st) h) none = _
    rw [cd_l32, cd_l32, cd_sub]
    rfl) hk
theorem wk_imul {B : eB} {d y pc pc2 : Nat} {L : List (Option eV)} {st : List eV} {M : Mm} {Q : Nat → eV → Mm → Prop} {a b c : Nat} {z w : Int} (hr : Rw y pc pc2 1 32 a b c) (hk : Wp B d y pc2 L (I (z * w) :: st) M Q) : Wp B d y pc L (I w :: I z :: st) M Q :=
  r_plain hr rfl (fun E lo h _ _ => by
    show cond (l32 (cd z) && l32 (cd w) && true) (eN (pc + 1) lo (.inl ((cd z * cd w) % 4294967296) :: st) h) none = _
    rw [cd_l32, cd_l32, cd_mul]
    rfl) hk
theorem wk_ineg {B : eB} {d y pc pc2 : Nat} {L : List (Option eV)} {st : List eV} {M : Mm} {Q : Nat → eV → Mm → Prop} {a b c : Nat} {z : Int} (hr : Rw y pc pc2 1 24 a b c) (hk : Wp B d y pc2 L (I (-z) :: st) M Q) : Wp B d y pc L (I z :: st) M Q :=
  r_plain hr rfl (fun E lo h _ _ => by
    show cond (l32 (cd z)) (eN (pc + 1) lo (.inl ((4294967296 - cd z) % 4294967296) :: st) h) none = _
    rw [cd_l32, cd_neg]
    rfl) hk
theorem cd_pos2 {z : Int} (h : 0 ≤ z ∧ z < 2147483648) : cd z = z.toNat ∧ Nat.ble (cd z) 2147483647 = true := by
  have e := cd_pos h.1 (by omega)
  exact ⟨e, by rw [e]; exact Nat.ble_eq_true_of_le (by omega)⟩
theorem cd_of_nat {n : Nat} (h : n < 4294967296) : n = cd (n : Int) := by unfold cd; omega
theorem wk_idiv {B : eB} {d y pc pc2 : Nat} {L : List (Option eV)} {st : List eV} {M : Mm} {Q : Nat → eV → Mm → Prop} {a b c : Nat} {z w : Int} (hr : Rw y pc pc2 1 25 a b c) (hz : 0 ≤ z ∧ z < 2147483648) (hw : 0 < w ∧ w < 2147483648) (hk : Wp B d y pc2 L (I (z / w) :: st) M Q) : Wp B d y pc L (I w :: I z :: st) M Q :=
  r_plain hr rfl (fun E lo h _ _ => by
    obtain ⟨e1, e2⟩ := cd_pos2 hz
    obtain ⟨e3, e4⟩ := cd_pos2 (z := w) ⟨by omega, hw.2⟩
    show cond (l32 (cd z) && l32 (cd w) && (Nat.ble (cd z) 2147483647 && Nat.ble (cd w) 2147483647 && Nat.ble 1 (cd w))) (eN (pc + 1) lo (.inl ((cd z / cd w) % 4294967296) :: st) h) none = _
    rw [cd_l32, cd_l32, e2, e4, show Nat.ble 1 (cd w) = true from Nat.ble_eq_true_of_le (by rw [e3]; omega), cd_nat, e1, e3]
    show eN (pc + 1) lo (.inl (cd ((z.toNat / w.toNat : Nat) : Int)) :: st) h = eN (pc + 1) lo (.inl (cd (z / w)) :: st) h
    rw [Int.natCast_ediv, Int.toNat_of_nonneg hz.1, Int.toNat_of_nonneg (by omega)]) hk
theorem wk_irem {B : eB} {d y pc pc2 : Nat} {L : List (Option eV)} {st : List eV} {M : Mm} {Q : Nat → eV → Mm → Prop} {a b c : Nat} {z w : Int} (hr : Rw y pc pc2 1 26 a b c) (hz : 0 ≤ z ∧ z < 2147483648) (hw : 0 < w ∧ w < 2147483648) (hk : Wp B d y pc2 L (I (z % w) :: st) M Q) : Wp B d y pc L (I w :: I z :: st) M Q :=
  r_plain hr rfl (fun E lo h _ _ => by
    obtain ⟨e1, e2⟩ := cd_pos2 hz
    obtain ⟨e3, e4⟩ := cd_pos2 (z := w) ⟨by omega, hw.2⟩
    show cond (l32 (cd z) && l32 (cd w) && (Nat.ble (cd z) 2147483647 && Nat.ble (cd w) 2147483647 && Nat.ble 1 (cd w))) (eN (pc + 1) lo (.inl ((cd z % cd w) % 4294967296) :: st) h) none = _
    rw [cd_l32, cd_l32, e2, e4, show Nat.ble 1 (cd w) = true from Nat.ble_eq_true_of_le (by rw [e3]; omega), cd_nat, e1, e3]
    show eN (pc + 1) lo (.inl (cd ((z.toNat % w.toNat : Nat) : Int)) :: st) h = eN (pc + 1) lo (.inl (cd (z % w)) :: st) h
    rw [Int.natCast_emod, Int.toNat_of_nonneg hz.1, Int.toNat_of_nonneg (by omega)]) hk
/-- & with a mask of the k lowest bits -/
theorem wk_iandm {B : eB} {d y pc pc2 : Nat} {L : List (Option eV)} {st : List eV} {M : Mm} {Q : Nat → eV → Mm → Prop} {a b c : Nat} {z w : Int} (k : Nat) (hr : Rw y pc pc2 1 33 a b c) (hw : cd w = 2 ^ k - 1 ∧ k ≤ 31) (hk : Wp B d y pc2 L (I (z % (2 ^ k : Nat)) :: st) M Q) : Wp B d y pc L (I w :: I z :: st) M Q :=
  r_plain hr rfl (fun E lo h _ _ => by
    show cond (l32 (cd z) && l32 (cd w) && true) (eN (pc + 1) lo (.inl ((cd z &&& cd w) % 4294967296) :: st) h) none = _
    rw [cd_l32, cd_l32, hw.1, Nat.and_two_pow_sub_one_eq_mod]
    show eN (pc + 1) lo (.inl ((cd z % 2 ^ k) % 4294967296) :: st) h = eN (pc + 1) lo (.inl (cd (z % (2 ^ k : Nat))) :: st) h
    rw [cd_nat]
    have hd : ((2 ^ k : Nat) : Int) ∣ 4294967296 := by
      have h1 : (2 ^ k : Nat) ∣ 2 ^ 32 := Nat.pow_dvd_pow 2 (by omega)
      exact Int.ofNat_dvd.mpr h1
    rw [Int.natCast_emod, cd_cast, Int.emod_emod_of_dvd _ hd]) hk
/-- & of numbers that aren't negative -/
theorem wk_iand {B : eB} {d y pc pc2 : Nat} {L : List (Option eV)} {st : List eV} {M : Mm} {Q : Nat → eV → Mm → Prop} {a b c : Nat} {z w : Int} (hr : Rw y pc pc2 1 33 a b c) (hz : 0 ≤ z ∧ z < 2147483648) (hw : 0 ≤ w ∧ w < 2147483648) (hk : ∀ r : Int, 0 ≤ r → r ≤ z → r ≤ w → r = ((z.toNat &&& w.toNat : Nat) : Int) → Wp B d y pc2 L (I r :: st) M Q) : Wp B d y pc L (I w :: I z :: st) M Q := by
  have h1 : z.toNat &&& w.toNat ≤ z.toNat := Nat.and_le_left
  have h2 : z.toNat &&& w.toNat ≤ w.toNat := Nat.and_le_right
  refine r_plain hr rfl (fun E lo h _ _ => ?_) (hk ((z.toNat &&& w.toNat : Nat) : Int) (by omega) (by omega) (by omega) rfl)
  show cond (l32 (cd z) && l32 (cd w) && true) (eN (pc + 1) lo (.inl ((cd z &&& cd w) % 4294967296) :: st) h) none = _
  rw [cd_l32, cd_l32, cd_nat, (cd_pos2 hz).1, (cd_pos2 hw).1]
  rfl
/-- & of a number that isn't negative with any -/
theorem wk_iandl {B : eB} {d y pc pc2 : Nat} {L : List (Option eV)} {st : List eV} {M : Mm} {Q : Nat → eV → Mm → Prop} {a b c : Nat} {z w : Int} (hr : Rw y pc pc2 1 33 a b c) (hz : 0 ≤ z ∧ z < 2147483648) (hk : ∀ r : Int, 0 ≤ r → r ≤ z → r = ((z.toNat &&& cd w : Nat) : Int) → Wp B d y pc2 L (I r :: st) M Q) : Wp B d y pc L (I w :: I z :: st) M Q := by
  have h1 : z.toNat &&& cd w ≤ z.toNat := Nat.and_le_left
  refine r_plain hr rfl (fun E lo h _ _ => ?_) (hk ((z.toNat &&& cd w : Nat) : Int) (by omega) (by omega) rfl)
  show cond (l32 (cd z) && l32 (cd w) && true) (eN (pc + 1) lo (.inl ((cd z &&& cd w) % 4294967296) :: st) h) none = _
  rw [cd_l32, cd_l32, cd_nat, (cd_pos2 hz).1]
  rfl
theorem wk_iandr {B : eB} {d y pc pc2 : Nat} {L : List (Option eV)} {st : List eV} {M : Mm} {Q : Nat → eV → Mm → Prop} {a b c : Nat} {z w : Int} (hr : Rw y pc pc2 1 33 a b c) (hw : 0 ≤ w ∧ w < 2147483648) (hk : ∀ r : Int, 0 ≤ r → r ≤ w → r = ((cd z &&& w.toNat : Nat) : Int) → Wp B d y pc2 L (I r :: st) M Q) : Wp B d y pc L (I w :: I z :: st) M Q := by
  have h1 : cd z &&& w.toNat ≤ w.toNat := Nat.and_le_right
  refine r_plain hr rfl (fun E lo h _ _ => ?_) (hk ((cd z &&& w.toNat : Nat) : Int) (by omega) (by omega) rfl)
  show cond (l32 (cd z) && l32 (cd w) && true) (eN (pc + 1) lo (.inl ((cd z &&& cd w) % 4294967296) :: st) h) none = _
  rw [cd_l32, cd_l32, cd_nat, (cd_pos2 hw).1]
  rfl
theorem wk_ior {B : eB} {d y pc pc2 : Nat} {L : List (Option eV)} {st : List eV} {M : Mm} {Q : Nat → eV → Mm → Prop} {a b c : Nat} {z w : Int} (k : Nat) (m : Int) (hr : Rw y pc pc2 1 34 a b c) (hm : m = ((2 ^ k : Nat) : Int) ∧ k ≤ 31) (hz : 0 ≤ z ∧ z < m) (hw : 0 ≤ w ∧ w < m) (hk : ∀ r : Int, 0 ≤ r → r < m → z ≤ r → w ≤ r → r = ((z.toNat ||| w.toNat : Nat) : Int) → Wp B d y pc2 L (I r :: st) M Q) : Wp B d y pc L (I w :: I z :: st) M Q := by
  have hp : 2 ^ k ≤ 2 ^ 31 := Nat.pow_le_pow_right (by decide) hm.2
  have h0 : z.toNat ||| w.toNat < 2 ^ k := Nat.or_lt_two_pow (by omega) (by omega)
  refine r_plain hr rfl (fun E lo h _ _ => ?_) (hk ((z.toNat ||| w.toNat : Nat) : Int) (by omega) (by omega) (by have := @Nat.left_le_or z.toNat w.toNat; omega) (by have := @Nat.right_le_or z.toNat w.toNat; omega) rfl)
  show cond (l32 (cd z) && l32 (cd w) && true) (eN (pc + 1) lo (.inl ((cd z ||| cd w) % 4294967296) :: st) h) none = _
  rw [cd_l32, cd_l32, cd_nat, (cd_pos2 (z := z) (by omega)).1, (cd_pos2 (z := w) (by omega)).1]
  rfl
/-- any two numbers -/
theorem wk_iorx {B : eB} {d y pc pc2 : Nat} {L : List (Option eV)} {st : List eV} {M : Mm} {Q : Nat → eV → Mm → Prop} {a b c : Nat} {z w : Int} (hr : Rw y pc pc2 1 34 a b c) (hk : ∀ r : Int, -2147483648 ≤ r → r < 2147483648 → Wp B d y pc2 L (I r :: st) M Q) : Wp B d y pc L (I w :: I z :: st) M Q := by
  refine r_plain hr rfl (fun E lo h _ _ => ?_) (hk (((((cd z ||| cd w : Nat) : Int) + 2147483648) % 4294967296) - 2147483648) (by omega) (by omega))
  show cond (l32 (cd z) && l32 (cd w) && true) (eN (pc + 1) lo (.inl ((cd z ||| cd w) % 4294967296) :: st) h) none = _
  rw [cd_l32, cd_l32, cd_nat]
  show eN (pc + 1) lo (.inl (cd _) :: st) h = eN (pc + 1) lo (.inl (cd _) :: st) h
  refine congrArg (fun x : Nat => eN (pc + 1) lo ((Sum.inl x : eV) :: st) h) ?_
  apply cd_eq
  omega
theorem wk_ixor {B : eB} {d y pc pc2 : Nat} {L : List (Option eV)} {st : List eV} {M : Mm} {Q : Nat → eV → Mm → Prop} {a b c : Nat} {z w : Int} (k : Nat) (m : Int) (hr : Rw y pc pc2 1 35 a b c) (hm : m = ((2 ^ k : Nat) : Int) ∧ k ≤ 31) (hz : 0 ≤ z ∧ z < m) (hw : 0 ≤ w ∧ w < m) (hk : ∀ r : Int, 0 ≤ r → r < m → r = ((z.toNat ^^^ w.toNat : Nat) : Int) → Wp B d y pc2 L (I r :: st) M Q) : Wp B d y pc L (I w :: I z :: st) M Q := by
  have hp : 2 ^ k ≤ 2 ^ 31 := Nat.pow_le_pow_right (by decide) hm.2
  have h0 : z.toNat ^^^ w.toNat < 2 ^ k := Nat.xor_lt_two_pow (by omega) (by omega)
  refine r_plain hr rfl (fun E lo h _ _ => ?_) (hk ((z.toNat ^^^ w.toNat : Nat) : Int) (by omega) (by omega) rfl)
  show cond (l32 (cd z) && l32 (cd w) && true) (eN (pc + 1) lo (.inl ((cd z ^^^ cd w) % 4294967296) :: st) h) none = _
  rw [cd_l32, cd_l32, cd_nat, (cd_pos2 (z := z) (by omega)).1, (cd_pos2 (z := w) (by omega)).1]
  rfl
/-- ~ -/
theorem wk_inot {B : eB} {d y pc pc2 : Nat} {L : List (Option eV)} {st : List eV} {M : Mm} {Q : Nat → eV → Mm → Prop} {a b c : Nat} {z : Int} (hr : Rw y pc pc2 1 35 a b c) (hk : Wp B d y pc2 L (I (-z - 1) :: st) M Q) : Wp B d y pc L (I (-1) :: I z :: st) M Q := by
  refine r_plain hr rfl (fun E lo h _ _ => ?_) hk
  show cond (l32 (cd z) && l32 (cd (-1)) && true) (eN (pc + 1) lo (.inl ((cd z ^^^ cd (-1)) % 4294967296) :: st) h) none = _
  have e : cd z ^^^ cd (-1) = 4294967295 - cd z := by
    have h1 : cd (-1) = 2 ^ 32 - 1 := rfl
    rw [h1]
    apply Nat.eq_of_testBit_eq
    intro i
    rw [Nat.testBit_xor, Nat.testBit_two_pow_sub_one, show 4294967295 - cd z = 2 ^ 32 - (cd z + 1) by omega, Nat.testBit_two_pow_sub_succ (cd_lt z)]
    by_cases hi : i < 32
    · simp [hi]
    · have : (cd z).testBit i = false := Nat.testBit_lt_two_pow (Nat.lt_of_lt_of_le (cd_lt z) (show (4294967296 : Nat) ≤ 2 ^ i from Nat.pow_le_pow_right (n := 2) (i := 32) (j := i) (by decide) (show 32 ≤ i by omega)))
      simp [hi, this]
  rw [cd_l32, cd_l32, e]
  show eN (pc + 1) lo (.inl ((4294967295 - cd z) % 4294967296) :: st) h = eN (pc + 1) lo (.inl (cd (-z - 1)) :: st) h
  refine congrArg (fun x : Nat => eN (pc + 1) lo ((Sum.inl x : eV) :: st) h) ?_
  have := cd_lt z
  unfold cd at this ⊢
  omega
theorem cd_sh {z k : Int} : (cd z * 2 ^ k.toNat) % 4294967296 = cd (z * pw k) := by
  have h : (((cd z * 2 ^ k.toNat) % 4294967296 : Nat) : Int) = ((cd (z * pw k) : Nat) : Int) := by
    rw [Int.natCast_emod, Int.natCast_mul, cd_cast, cd_cast, Int.natCast_pow]
    show z % 4294967296 * pw k % 4294967296 = z * pw k % 4294967296
    rw [Int.mul_emod, Int.emod_emod_of_dvd _ (Int.dvd_refl _), ← Int.mul_emod]
  exact Int.ofNat.inj h
theorem wk_ishl {B : eB} {d y pc pc2 : Nat} {L : List (Option eV)} {st : List eV} {M : Mm} {Q : Nat → eV → Mm → Prop} {a b c : Nat} {z k : Int} (hr : Rw y pc pc2 1 36 a b c) (hw : 0 ≤ k ∧ k ≤ 31) (hk : Wp B d y pc2 L (I (z * pw k) :: st) M Q) : Wp B d y pc L (I k :: I z :: st) M Q := by
  refine r_plain hr rfl (fun E lo h _ _ => ?_) hk
  have e : cd k = k.toNat := cd_pos hw.1 (by omega)
  show cond (l32 (cd z) && l32 (cd k) && true) (eN (pc + 1) lo (.inl ((cd z * 2 ^ (cd k % 32)) % 4294967296) :: st) h) none = _
  rw [cd_l32, cd_l32, e, Nat.mod_eq_of_lt (show k.toNat < 32 by omega), cd_sh]
  rfl
theorem wk_shlx {B : eB} {d y pc pc2 : Nat} {L : List (Option eV)} {st : List eV} {M : Mm} {Q : Nat → eV → Mm → Prop} {a b c : Nat} {z k : Int} (hr : Rw y pc pc2 1 36 a b c) (hk : ∀ r : Int, -2147483648 ≤ r → r < 2147483648 → Wp B d y pc2 L (I r :: st) M Q) : Wp B d y pc L (I k :: I z :: st) M Q := by
  obtain ⟨r, h1, h2, e⟩ : ∃ r : Int, -2147483648 ≤ r ∧ r < 2147483648 ∧ (cd z * 2 ^ (cd k % 32)) % 4294967296 = cd r := by
    obtain ⟨n, hn⟩ : ∃ n, (cd z * 2 ^ (cd k % 32)) % 4294967296 = n := ⟨_, rfl⟩
    have hl : n < 4294967296 := by rw [← hn]; exact Nat.mod_lt _ (by decide)
    refine ⟨((n : Int) + 2147483648) % 4294967296 - 2147483648, by omega, by omega, ?_⟩
    rw [hn]
    unfold cd
    omega
  refine r_plain hr rfl (fun E lo h _ _ => ?_) (hk r h1 h2)
  show cond (l32 (cd z) && l32 (cd k) && true) (eN (pc + 1) lo (.inl ((cd z * 2 ^ (cd k % 32)) % 4294967296) :: st) h) none = _
  rw [cd_l32, cd_l32, e]
  rfl
theorem cd_sar {z : Int} {k : Nat} (hz : -2147483648 ≤ z ∧ z < 2147483648) : e_shr (cd z) k = cd (z / ((2 ^ k : Nat) : Int)) := by
  have hp : 0 < 2 ^ k := Nat.two_pow_pos k
  unfold e_shr
  rcases Int.lt_or_le z 0 with h0 | h0
  · have e : cd z = (z + 4294967296).toNat := by unfold cd; omega
    rw [show Nat.ble (cd z) 2147483647 = false from by rw [Bool.eq_false_iff]; intro q; have := Nat.le_of_ble_eq_true q; omega]
    show 4294967295 - (4294967295 - cd z) / 2 ^ k = _
    rw [e, show 4294967295 - (z + 4294967296).toNat = (-z - 1).toNat by omega]
    obtain ⟨n, hn⟩ : ∃ n : Nat, z = Int.negSucc n := ⟨(-z - 1).toNat, by rw [Int.negSucc_eq]; omega⟩
    subst hn
    have e2 : (-(Int.negSucc n) - 1).toNat = n := by rw [Int.negSucc_eq]; omega
    rw [e2, Int.negSucc_ediv _ (Int.natCast_pos.mpr hp)]
    have h1 : n / 2 ^ k ≤ n := Nat.div_le_self _ _
    have h2 : (n : Int) ≤ 2147483647 := by have := hz.1; rw [Int.negSucc_eq] at this; omega
    show 4294967295 - n / 2 ^ k = cd (-((n : Int) / ((2 ^ k : Nat) : Int) + 1))
    rw [← Int.natCast_ediv]
    generalize n / 2 ^ k = q at h1
    unfold cd
    omega
  · have e : cd z = z.toNat := cd_pos h0 (by omega)
    rw [show Nat.ble (cd z) 2147483647 = true from Nat.ble_eq_true_of_le (by omega)]
    show cd z / 2 ^ k = _
    obtain ⟨n, rfl⟩ := Int.eq_ofNat_of_zero_le h0
    rw [e, Int.toNat_natCast, ← Int.natCast_ediv]
    exact cd_of_nat (Nat.lt_of_le_of_lt (Nat.div_le_self _ _) (by omega))
theorem wk_ishr {B : eB} {d y pc pc2 : Nat} {L : List (Option eV)} {st : List eV} {M : Mm} {Q : Nat → eV → Mm → Prop} {a b c : Nat} {z k : Int} (hr : Rw y pc pc2 1 37 a b c) (hz : -2147483648 ≤ z ∧ z < 2147483648) (hw : 0 ≤ k ∧ k ≤ 31) (hk : Wp B d y pc2 L (I (z / pw k) :: st) M Q) : Wp B d y pc L (I k :: I z :: st) M Q := by
  refine r_plain hr rfl (fun E lo h _ _ => ?_) hk
  have e : cd k = k.toNat := cd_pos hw.1 (by omega)
  show cond (l32 (cd z) && Nat.ble (cd k) 31) (eN (pc + 1) lo (.inl (e_shr (cd z) (cd k)) :: st) h) none = _
  rw [cd_l32, e, show Nat.ble k.toNat 31 = true from Nat.ble_eq_true_of_le (by omega), cd_sar hz, Int.natCast_pow]
  rfl
/-- >> by a told number of places: m is its power of two -/
theorem wk_ishrc {B : eB} {d y pc pc2 : Nat} {L : List (Option eV)} {st : List eV} {M : Mm} {Q : Nat → eV → Mm → Prop} {a b c : Nat} {z k m : Int} (hr : Rw y pc pc2 1 37 a b c) (hz : -2147483648 ≤ z ∧ z < 2147483648) (hw : 0 ≤ k ∧ k ≤ 31) (hm : pw k = m) (hk : Wp B d y pc2 L (I (z / m) :: st) M Q) : Wp B d y pc L (I k :: I z :: st) M Q := by
  subst hm
  exact wk_ishr hr hz hw hk
theorem wk_ishlc {B : eB} {d y pc pc2 : Nat} {L : List (Option eV)} {st : List eV} {M : Mm} {Q : Nat → eV → Mm → Prop} {a b c : Nat} {z k m : Int} (hr : Rw y pc pc2 1 36 a b c) (hw : 0 ≤ k ∧ k ≤ 31) (hm : pw k = m) (hk : Wp B d y pc2 L (I (z * m) :: st) M Q) : Wp B d y pc L (I k :: I z :: st) M Q := by
  subst hm
  exact wk_ishl hr hw hk
theorem wk_iushr {B : eB} {d y pc pc2 : Nat} {L : List (Option eV)} {st : List eV} {M : Mm} {Q : Nat → eV → Mm → Prop} {a b c : Nat} {z k : Int} (hr : Rw y pc pc2 1 38 a b c) (hw : 0 ≤ k ∧ k ≤ 31) (hk : Wp B d y pc2 L (I (z % 4294967296 / pw k) :: st) M Q) : Wp B d y pc L (I k :: I z :: st) M Q := by
  refine r_plain hr rfl (fun E lo h _ _ => ?_) hk
  have e : cd k = k.toNat := cd_pos hw.1 (by omega)
  show cond (l32 (cd z) && l32 (cd k) && Nat.ble (cd k) 31) (eN (pc + 1) lo (.inl ((cd z / 2 ^ cd k) % 4294967296) :: st) h) none = _
  rw [cd_l32, cd_l32, e, show Nat.ble k.toNat 31 = true from Nat.ble_eq_true_of_le (by omega), cd_nat, Int.natCast_ediv, cd_cast, Int.natCast_pow]
  rfl
theorem wk_i2b {B : eB} {d y pc pc2 : Nat} {L : List (Option eV)} {st : List eV} {M : Mm} {Q : Nat → eV → Mm → Prop} {a b c : Nat} {z : Int} (hr : Rw y pc pc2 1 50 a b c) (hk : Wp B d y pc2 L (I ((z + 128) % 256 - 128) :: st) M Q) : Wp B d y pc L (I z :: st) M Q := by
  refine r_plain hr rfl (fun E lo h _ _ => ?_) hk
  show cond (l32 (cd z)) (eN (pc + 1) lo (.inl (e_i2b (cd z)) :: st) h) none = _
  rw [cd_l32]
  show eN (pc + 1) lo (.inl (e_i2b (cd z)) :: st) h = eN (pc + 1) lo (.inl (cd _) :: st) h
  refine congrArg (fun x : Nat => eN (pc + 1) lo ((Sum.inl x : eV) :: st) h) ?_
  unfold e_i2b
  cases hb : Nat.ble (cd z % 256) 127 with
  | true =>
    have := Nat.le_of_ble_eq_true hb
    show cd z % 256 = _
    unfold cd at this ⊢
    omega
  | false =>
    have : ¬ cd z % 256 ≤ 127 := fun q => by rw [Nat.ble_eq_true_of_le q] at hb; cases hb
    show cd z % 256 + 4294967040 = _
    unfold cd at this ⊢
    omega
theorem wk_i2l {B : eB} {d y pc pc2 : Nat} {L : List (Option eV)} {st : List eV} {M : Mm} {Q : Nat → eV → Mm → Prop} {a b c : Nat} {z : Int} (hr : Rw y pc pc2 1 48 a b c) (hz : -2147483648 ≤ z ∧ z < 2147483648) (hk : Wp B d y pc2 L (J (z % 18446744073709551616).toNat :: st) M Q) : Wp B d y pc L (I z :: st) M Q := by
  refine r_plain hr rfl (fun E lo h _ _ => ?_) hk
  show cond (Nat.ble (cd z) 2147483647) (eN (pc + 1) lo (.inr (.inl (cd z)) :: st) h) (cond (l32 (cd z)) (eN (pc + 1) lo (.inr (.inl (cd z + 18446744069414584320)) :: st) h) none) = _
  cases hb : Nat.ble (cd z) 2147483647 with
  | true =>
    have := Nat.le_of_ble_eq_true hb
    show eN (pc + 1) lo (.inr (.inl (cd z)) :: st) h = eN (pc + 1) lo (.inr (.inl _) :: st) h
    refine congrArg (fun x : Nat => eN (pc + 1) lo ((Sum.inr (Sum.inl x) : eV) :: st) h) ?_
    unfold cd at this ⊢
    omega
  | false =>
    have : ¬ cd z ≤ 2147483647 := fun q => by rw [Nat.ble_eq_true_of_le q] at hb; cases hb
    rw [cd_l32]
    show eN (pc + 1) lo (.inr (.inl (cd z + 18446744069414584320)) :: st) h = eN (pc + 1) lo (.inr (.inl _) :: st) h
    refine congrArg (fun x : Nat => eN (pc + 1) lo ((Sum.inr (Sum.inl x) : eV) :: st) h) ?_
    unfold cd at this ⊢
    omega
theorem wk_l2i {B : eB} {d y pc pc2 : Nat} {L : List (Option eV)} {st : List eV} {M : Mm} {Q : Nat → eV → Mm → Prop} {a b c : Nat} {n : Nat} (hr : Rw y pc pc2 1 49 a b c) (hk : Wp B d y pc2 L (I (n : Int) :: st) M Q) : Wp B d y pc L (J n :: st) M Q := by
  refine r_plain hr rfl (fun E lo h _ _ => ?_) hk
  show eN (pc + 1) lo (.inl (n % 4294967296) :: st) h = _
  rw [cd_nat]
  rfl
theorem wk_ladd {B : eB} {d y pc pc2 : Nat} {L : List (Option eV)} {st : List eV} {M : Mm} {Q : Nat → eV → Mm → Prop} {a b c : Nat} {n m : Nat} (hr : Rw y pc pc2 1 41 a b c) (hk : Wp B d y pc2 L (J ((n + m) % 18446744073709551616) :: st) M Q) : Wp B d y pc L (J m :: J n :: st) M Q := r_plain hr rfl (fun E lo h _ _ => rfl) hk
theorem wk_lsub {B : eB} {d y pc pc2 : Nat} {L : List (Option eV)} {st : List eV} {M : Mm} {Q : Nat → eV → Mm → Prop} {a b c : Nat} {n m : Nat} (hr : Rw y pc pc2 1 42 a b c) (hm : m < 18446744073709551616) (hk : Wp B d y pc2 L (J ((n + (18446744073709551616 - m)) % 18446744073709551616) :: st) M Q) : Wp B d y pc L (J m :: J n :: st) M Q := by
  refine r_plain hr rfl (fun E lo h _ _ => ?_) hk
  show cond (Nat.ble m 18446744073709551615) (eN (pc + 1) lo (.inr (.inl ((n + (18446744073709551616 - m)) % 18446744073709551616)) :: st) h) none = _
  rw [Nat.ble_eq_true_of_le (Nat.le_of_lt_succ hm)]
  rfl
theorem wk_land {B : eB} {d y pc pc2 : Nat} {L : List (Option eV)} {st : List eV} {M : Mm} {Q : Nat → eV → Mm → Prop} {a b c : Nat} {n m : Nat} (hr : Rw y pc pc2 1 43 a b c) (hk : ∀ r : Nat, r ≤ n → r ≤ m → r < 18446744073709551616 → r = (n &&& m) % 18446744073709551616 → Wp B d y pc2 L (J r :: st) M Q) : Wp B d y pc L (J m :: J n :: st) M Q :=
  r_plain hr rfl (fun E lo h _ _ => rfl) (hk ((n &&& m) % 18446744073709551616) (Nat.le_trans (Nat.mod_le _ _) Nat.and_le_left) (Nat.le_trans (Nat.mod_le _ _) Nat.and_le_right) (Nat.mod_lt _ (by decide)) rfl)
theorem wk_lor {B : eB} {d y pc pc2 : Nat} {L : List (Option eV)} {st : List eV} {M : Mm} {Q : Nat → eV → Mm → Prop} {a b c : Nat} {n m : Nat} (hr : Rw y pc pc2 1 44 a b c) (hk : ∀ r : Nat, r < 18446744073709551616 → r = (n ||| m) % 18446744073709551616 → Wp B d y pc2 L (J r :: st) M Q) : Wp B d y pc L (J m :: J n :: st) M Q :=
  r_plain hr rfl (fun E lo h _ _ => rfl) (hk ((n ||| m) % 18446744073709551616) (Nat.mod_lt _ (by decide)) rfl)
theorem wk_lxor {B : eB} {d y pc pc2 : Nat} {L : List (Option eV)} {st : List eV} {M : Mm} {Q : Nat → eV → Mm → Prop} {a b c : Nat} {n m : Nat} (hr : Rw y pc pc2 1 45 a b c) (hk : ∀ r : Nat, r < 18446744073709551616 → r = (n ^^^ m) % 18446744073709551616 → Wp B d y pc2 L (J r :: st) M Q) : Wp B d y pc L (J m :: J n :: st) M Q :=
  r_plain hr rfl (fun E lo h _ _ => rfl) (hk ((n ^^^ m) % 18446744073709551616) (Nat.mod_lt _ (by decide)) rfl)
theorem wk_lshl {B : eB} {d y pc pc2 : Nat} {L : List (Option eV)} {st : List eV} {M : Mm} {Q : Nat → eV → Mm → Prop} {a b c : Nat} {n : Nat} {k : Int} (hr : Rw y pc pc2 1 46 a b c) (hw : 0 ≤ k ∧ k ≤ 63) (hk : Wp B d y pc2 L (J ((n * 2 ^ k.toNat) % 18446744073709551616) :: st) M Q) : Wp B d y pc L (I k :: J n :: st) M Q := by
  refine r_plain hr rfl (fun E lo h _ _ => ?_) hk
  have e : cd k = k.toNat := cd_pos hw.1 (by omega)
  show cond (l32 (cd k) && Nat.ble (cd k) 63) (eN (pc + 1) lo (.inr (.inl ((n * 2 ^ cd k) % 18446744073709551616)) :: st) h) none = _
  rw [cd_l32, e, show Nat.ble k.toNat 63 = true from Nat.ble_eq_true_of_le (by omega)]
  rfl
theorem wk_lushr {B : eB} {d y pc pc2 : Nat} {L : List (Option eV)} {st : List eV} {M : Mm} {Q : Nat → eV → Mm → Prop} {a b c : Nat} {n : Nat} {k : Int} (hr : Rw y pc pc2 1 47 a b c) (hn : n < 18446744073709551616) (hw : 0 ≤ k ∧ k ≤ 63) (hk : Wp B d y pc2 L (J (n / 2 ^ k.toNat) :: st) M Q) : Wp B d y pc L (I k :: J n :: st) M Q := by
  refine r_plain hr rfl (fun E lo h _ _ => ?_) hk
  have e : cd k = k.toNat := cd_pos hw.1 (by omega)
  show cond (l32 (cd k) && (Nat.ble (cd k) 63 && Nat.ble n 18446744073709551615)) (eN (pc + 1) lo (.inr (.inl ((n / 2 ^ cd k) % 18446744073709551616)) :: st) h) none = _
  rw [cd_l32, e, show Nat.ble k.toNat 63 = true from Nat.ble_eq_true_of_le (by omega), Nat.ble_eq_true_of_le (Nat.le_of_lt_succ hn), Nat.mod_eq_of_lt (Nat.lt_of_le_of_lt (Nat.div_le_self _ _) hn)]
  rfl
theorem wk_lcmp {B : eB} {d y pc pc2 : Nat} {L : List (Option eV)} {st : List eV} {M : Mm} {Q : Nat → eV → Mm → Prop} {a b c : Nat} {n m : Nat} (hr : Rw y pc pc2 1 51 a b c) (hn : n < 18446744073709551616) (hm : m < 18446744073709551616) (h1 : n = m → Wp B d y pc2 L (I 0 :: st) M Q) (h2 : n ≠ m → ∀ z : Int, z ≠ 0 → -1 ≤ z → z ≤ 1 → Wp B d y pc2 L (I z :: st) M Q) : Wp B d y pc L (J m :: J n :: st) M Q := by
  have e1 := Nat.ble_eq_true_of_le (Nat.le_of_lt_succ hn)
  have e2 := Nat.ble_eq_true_of_le (Nat.le_of_lt_succ hm)
  by_cases e : n = m
  · subst e
    refine r_plain hr rfl (fun E lo h _ _ => ?_) (h1 rfl)
    show cond (Nat.ble n 18446744073709551615 && Nat.ble n 18446744073709551615) (cond (Nat.beq n n) (eN (pc + 1) lo (.inl 0 :: st) h) _) none = _
    rw [e1, Nat.beq_refl]
    rfl
  · cases hb : Nat.ble ((n + 9223372036854775808) % 18446744073709551616) ((m + 9223372036854775808) % 18446744073709551616) with
    | true =>
      refine r_plain hr rfl (fun E lo h _ _ => ?_) (h2 e (-1) (by decide) (by decide) (by decide))
      show cond (Nat.ble n 18446744073709551615 && Nat.ble m 18446744073709551615) (cond (Nat.beq n m) (eN (pc + 1) lo (.inl 0 :: st) h) (cond (Nat.ble ((n + 9223372036854775808) % 18446744073709551616) ((m + 9223372036854775808) % 18446744073709551616)) (eN (pc + 1) lo (.inl 4294967295 :: st) h) (eN (pc + 1) lo (.inl 1 :: st) h))) none = _
      rw [e1, e2, bf e, hb]
      rfl
    | false =>
      refine r_plain hr rfl (fun E lo h _ _ => ?_) (h2 e 1 (by decide) (by decide) (by decide))
      show cond (Nat.ble n 18446744073709551615 && Nat.ble m 18446744073709551615) (cond (Nat.beq n m) (eN (pc + 1) lo (.inl 0 :: st) h) (cond (Nat.ble ((n + 9223372036854775808) % 18446744073709551616) ((m + 9223372036854775808) % 18446744073709551616)) (eN (pc + 1) lo (.inl 4294967295 :: st) h) (eN (pc + 1) lo (.inl 1 :: st) h))) none = _
      rw [e1, e2, bf e, hb]
      rfl
theorem wk_popi {B : eB} {d y pc pc2 : Nat} {L : List (Option eV)} {st : List eV} {M : Mm} {Q : Nat → eV → Mm → Prop} {a b c : Nat} {z : Int} (hr : Rw y pc pc2 1 53 a b c) (hk : Wp B d y pc2 L st M Q) : Wp B d y pc L (I z :: st) M Q := r_plain hr rfl (fun E lo h _ _ => rfl) hk
theorem wk_dupr {B : eB} {d y pc pc2 : Nat} {L : List (Option eV)} {st : List eV} {M : Mm} {Q : Nat → eV → Mm → Prop} {a b c : Nat} {z : Int} (hr : Rw y pc pc2 1 52 a b c) (hk : Wp B d y pc2 L (R z :: R z :: st) M Q) : Wp B d y pc L (R z :: st) M Q := r_plain hr rfl (fun E lo h _ _ => rfl) hk
theorem wk_dup2 {B : eB} {d y pc pc2 : Nat} {L : List (Option eV)} {st : List eV} {M : Mm} {Q : Nat → eV → Mm → Prop} {a b c : Nat} {z w : Int} (hr : Rw y pc pc2 1 54 a b c) (hk : Wp B d y pc2 L (I z :: R w :: I z :: R w :: st) M Q) : Wp B d y pc L (I z :: R w :: st) M Q := r_plain hr rfl (fun E lo h _ _ => rfl) hk
theorem wk_goto {B : eB} {d y pc pc2 : Nat} {L : List (Option eV)} {st : List eV} {M : Mm} {Q : Nat → eV → Mm → Prop} {a b c : Nat} (hr : Rw y pc pc2 3 60 a b c) (hk : Wp B d y a L st M Q) : Wp B d y pc L st M Q := r_to hr rfl (fun E lo h _ _ => rfl) hk
theorem e_cmp_I (k : Nat) {z w : Int} (hz : -2147483648 ≤ z ∧ z < 2147483648) (hw : -2147483648 ≤ w ∧ w < 2147483648) (p : Prop) [Decidable p] (hp : (k = 0 ∧ (p ↔ z = w)) ∨ (k = 1 ∧ (p ↔ ¬ z = w)) ∨ (k = 2 ∧ (p ↔ z < w)) ∨ (k = 3 ∧ (p ↔ ¬ z < w)) ∨ (k = 4 ∧ (p ↔ w < z)) ∨ (k = 5 ∧ (p ↔ ¬ w < z))) : e_cmp k ((z + 2147483648).toNat, (z + 2147483648).toNat) ((w + 2147483648).toNat, (w + 2147483648).toNat) = some (decide p) := by
  rcases hp with ⟨rfl, hp⟩ | ⟨rfl, hp⟩ | ⟨rfl, hp⟩ | ⟨rfl, hp⟩ | ⟨rfl, hp⟩ | ⟨rfl, hp⟩
  · show e_eq _ _ = _
    rw [e_eq_I hz hw]
    simp [hp]
  · show (e_eq _ _).map not = _
    rw [e_eq_I hz hw]
    simp [hp]
  · show e_lt _ _ = _
    rw [e_lt_I hz hw]
    simp [hp]
  · show (e_lt _ _).map not = _
    rw [e_lt_I hz hw]
    show some (!decide (z < w)) = _
    by_cases h : z < w
    · rw [decide_eq_true h, decide_eq_false (fun q => hp.mp q h)]
      rfl
    · rw [decide_eq_false h, decide_eq_true (hp.mpr h)]
      rfl
  · show e_lt _ _ = _
    rw [e_lt_I hw hz]
    simp [hp]
  · show (e_lt _ _).map not = _
    rw [e_lt_I hw hz]
    show some (!decide (w < z)) = _
    by_cases h : w < z
    · rw [decide_eq_true h, decide_eq_false (fun q => hp.mp q h)]
      rfl
    · rw [decide_eq_false h, decide_eq_true (hp.mpr h)]
      rfl
theorem e_go_d (p : Prop) [Decidable p] (g1 g2 : eG) : e_go (some (decide p)) g1 g2 = some (.inl (if p then g1 else g2)) := by
  by_cases h : p
  · rw [decide_eq_true h, if_pos h]
    rfl
  · rw [decide_eq_false h, if_neg h]
    rfl
theorem wk_iceq {B : eB} {d y pc pc2 : Nat} {L : List (Option eV)} {st : List eV} {M : Mm} {Q : Nat → eV → Mm → Prop} {a b c : Nat} {z w : Int} (hr : Rw y pc pc2 3 67 a b c) (hz : -2147483648 ≤ z ∧ z < 2147483648) (hw : -2147483648 ≤ w ∧ w < 2147483648) (h1 : z = w → Wp B d y a L st M Q) (h2 : ¬ z = w → Wp B d y pc2 L st M Q) : Wp B d y pc L (I w :: I z :: st) M Q := by
  have key : ∀ (E : eE) (lo : List (Nat × eV)) (h : eH), xget eF 7 opT 67 a b c E B (pc, lo, I w :: I z :: st, h) = some (.inl (if z = w then (a, lo, st, h) else (pc + 3, lo, st, h))) := by
    intro E lo h
    show e_go (e_cmp 0 (e_rng B (cd z)) (e_rng B (cd w))) _ _ = _
    rw [e_rng_I B hz, e_rng_I B hw, e_cmp_I 0 hz hw (z = w) (Or.inl ⟨rfl, Iff.rfl⟩), e_go_d]
  by_cases hp : z = w
  · exact r_to hr rfl (fun E lo h _ _ => by rw [key, if_pos hp]) (h1 hp)
  · exact r_plain hr rfl (fun E lo h _ _ => by rw [key, if_neg hp]) (h2 (hp))
theorem wk_ifeq {B : eB} {d y pc pc2 : Nat} {L : List (Option eV)} {st : List eV} {M : Mm} {Q : Nat → eV → Mm → Prop} {a b c : Nat} {z : Int} (hr : Rw y pc pc2 3 61 a b c) (hz : -2147483648 ≤ z ∧ z < 2147483648) (h1 : z = 0 → Wp B d y a L st M Q) (h2 : ¬ z = 0 → Wp B d y pc2 L st M Q) : Wp B d y pc L (I z :: st) M Q := by
  have hw : -2147483648 ≤ (0 : Int) ∧ (0 : Int) < 2147483648 := by decide
  have key : ∀ (E : eE) (lo : List (Nat × eV)) (h : eH), xget eF 7 opT 61 a b c E B (pc, lo, I z :: st, h) = some (.inl (if z = 0 then (a, lo, st, h) else (pc + 3, lo, st, h))) := by
    intro E lo h
    show e_go (e_cmp 0 (e_rng B (cd z)) ((0 + 2147483648 : Int).toNat, (0 + 2147483648 : Int).toNat)) _ _ = _
    rw [e_rng_I B hz, e_cmp_I 0 (w := 0) hz hw (z = 0) (Or.inl ⟨rfl, Iff.rfl⟩), e_go_d]
  by_cases hp : z = 0
  · exact r_to hr rfl (fun E lo h _ _ => by rw [key, if_pos hp]) (h1 hp)
  · exact r_plain hr rfl (fun E lo h _ _ => by rw [key, if_neg hp]) (h2 (hp))
theorem wk_icne {B : eB} {d y pc pc2 : Nat} {L : List (Option eV)} {st : List eV} {M : Mm} {Q : Nat → eV → Mm → Prop} {a b c : Nat} {z w : Int} (hr : Rw y pc pc2 3 68 a b c) (hz : -2147483648 ≤ z ∧ z < 2147483648) (hw : -2147483648 ≤ w ∧ w < 2147483648) (h1 : z ≠ w → Wp B d y a L st M Q) (h2 : z = w → Wp B d y pc2 L st M Q) : Wp B d y pc L (I w :: I z :: st) M Q := by
  have key : ∀ (E : eE) (lo : List (Nat × eV)) (h : eH), xget eF 7 opT 68 a b c E B (pc, lo, I w :: I z :: st, h) = some (.inl (if z ≠ w then (a, lo, st, h) else (pc + 3, lo, st, h))) := by
    intro E lo h
    show e_go (e_cmp 1 (e_rng B (cd z)) (e_rng B (cd w))) _ _ = _
    rw [e_rng_I B hz, e_rng_I B hw, e_cmp_I 1 hz hw (z ≠ w) (Or.inr (Or.inl ⟨rfl, Iff.rfl⟩)), e_go_d]
  by_cases hp : z ≠ w
  · exact r_to hr rfl (fun E lo h _ _ => by rw [key, if_pos hp]) (h1 hp)
  · exact r_plain hr rfl (fun E lo h _ _ => by rw [key, if_neg hp]) (h2 (Decidable.not_not.mp hp))
theorem wk_ifne {B : eB} {d y pc pc2 : Nat} {L : List (Option eV)} {st : List eV} {M : Mm} {Q : Nat → eV → Mm → Prop} {a b c : Nat} {z : Int} (hr : Rw y pc pc2 3 62 a b c) (hz : -2147483648 ≤ z ∧ z < 2147483648) (h1 : z ≠ 0 → Wp B d y a L st M Q) (h2 : z = 0 → Wp B d y pc2 L st M Q) : Wp B d y pc L (I z :: st) M Q := by
  have hw : -2147483648 ≤ (0 : Int) ∧ (0 : Int) < 2147483648 := by decide
  have key : ∀ (E : eE) (lo : List (Nat × eV)) (h : eH), xget eF 7 opT 62 a b c E B (pc, lo, I z :: st, h) = some (.inl (if z ≠ 0 then (a, lo, st, h) else (pc + 3, lo, st, h))) := by
    intro E lo h
    show e_go (e_cmp 1 (e_rng B (cd z)) ((0 + 2147483648 : Int).toNat, (0 + 2147483648 : Int).toNat)) _ _ = _
    rw [e_rng_I B hz, e_cmp_I 1 (w := 0) hz hw (z ≠ 0) (Or.inr (Or.inl ⟨rfl, Iff.rfl⟩)), e_go_d]
  by_cases hp : z ≠ 0
  · exact r_to hr rfl (fun E lo h _ _ => by rw [key, if_pos hp]) (h1 hp)
  · exact r_plain hr rfl (fun E lo h _ _ => by rw [key, if_neg hp]) (h2 (Decidable.not_not.mp hp))
theorem wk_iclt {B : eB} {d y pc pc2 : Nat} {L : List (Option eV)} {st : List eV} {M : Mm} {Q : Nat → eV → Mm → Prop} {a b c : Nat} {z w : Int} (hr : Rw y pc pc2 3 69 a b c) (hz : -2147483648 ≤ z ∧ z < 2147483648) (hw : -2147483648 ≤ w ∧ w < 2147483648) (h1 : z < w → Wp B d y a L st M Q) (h2 : w ≤ z → Wp B d y pc2 L st M Q) : Wp B d y pc L (I w :: I z :: st) M Q := by
  have key : ∀ (E : eE) (lo : List (Nat × eV)) (h : eH), xget eF 7 opT 69 a b c E B (pc, lo, I w :: I z :: st, h) = some (.inl (if z < w then (a, lo, st, h) else (pc + 3, lo, st, h))) := by
    intro E lo h
    show e_go (e_cmp 2 (e_rng B (cd z)) (e_rng B (cd w))) _ _ = _
    rw [e_rng_I B hz, e_rng_I B hw, e_cmp_I 2 hz hw (z < w) (Or.inr (Or.inr (Or.inl ⟨rfl, Iff.rfl⟩))), e_go_d]
  by_cases hp : z < w
  · exact r_to hr rfl (fun E lo h _ _ => by rw [key, if_pos hp]) (h1 hp)
  · exact r_plain hr rfl (fun E lo h _ _ => by rw [key, if_neg hp]) (h2 (Int.not_lt.mp hp))
theorem wk_iflt {B : eB} {d y pc pc2 : Nat} {L : List (Option eV)} {st : List eV} {M : Mm} {Q : Nat → eV → Mm → Prop} {a b c : Nat} {z : Int} (hr : Rw y pc pc2 3 63 a b c) (hz : -2147483648 ≤ z ∧ z < 2147483648) (h1 : z < 0 → Wp B d y a L st M Q) (h2 : 0 ≤ z → Wp B d y pc2 L st M Q) : Wp B d y pc L (I z :: st) M Q := by
  have hw : -2147483648 ≤ (0 : Int) ∧ (0 : Int) < 2147483648 := by decide
  have key : ∀ (E : eE) (lo : List (Nat × eV)) (h : eH), xget eF 7 opT 63 a b c E B (pc, lo, I z :: st, h) = some (.inl (if z < 0 then (a, lo, st, h) else (pc + 3, lo, st, h))) := by
    intro E lo h
    show e_go (e_cmp 2 (e_rng B (cd z)) ((0 + 2147483648 : Int).toNat, (0 + 2147483648 : Int).toNat)) _ _ = _
    rw [e_rng_I B hz, e_cmp_I 2 (w := 0) hz hw (z < 0) (Or.inr (Or.inr (Or.inl ⟨rfl, Iff.rfl⟩))), e_go_d]
  by_cases hp : z < 0
  · exact r_to hr rfl (fun E lo h _ _ => by rw [key, if_pos hp]) (h1 hp)
  · exact r_plain hr rfl (fun E lo h _ _ => by rw [key, if_neg hp]) (h2 (Int.not_lt.mp hp))
theorem wk_icge {B : eB} {d y pc pc2 : Nat} {L : List (Option eV)} {st : List eV} {M : Mm} {Q : Nat → eV → Mm → Prop} {a b c : Nat} {z w : Int} (hr : Rw y pc pc2 3 70 a b c) (hz : -2147483648 ≤ z ∧ z < 2147483648) (hw : -2147483648 ≤ w ∧ w < 2147483648) (h1 : w ≤ z → Wp B d y a L st M Q) (h2 : z < w → Wp B d y pc2 L st M Q) : Wp B d y pc L (I w :: I z :: st) M Q := by
  have key : ∀ (E : eE) (lo : List (Nat × eV)) (h : eH), xget eF 7 opT 70 a b c E B (pc, lo, I w :: I z :: st, h) = some (.inl (if w ≤ z then (a, lo, st, h) else (pc + 3, lo, st, h))) := by
    intro E lo h
    show e_go (e_cmp 3 (e_rng B (cd z)) (e_rng B (cd w))) _ _ = _
    rw [e_rng_I B hz, e_rng_I B hw, e_cmp_I 3 hz hw (w ≤ z) (Or.inr (Or.inr (Or.inr (Or.inl ⟨rfl, Int.not_lt.symm⟩)))), e_go_d]
  by_cases hp : w ≤ z
  · exact r_to hr rfl (fun E lo h _ _ => by rw [key, if_pos hp]) (h1 hp)
  · exact r_plain hr rfl (fun E lo h _ _ => by rw [key, if_neg hp]) (h2 (Int.not_le.mp hp))
theorem wk_ifge {B : eB} {d y pc pc2 : Nat} {L : List (Option eV)} {st : List eV} {M : Mm} {Q : Nat → eV → Mm → Prop} {a b c : Nat} {z : Int} (hr : Rw y pc pc2 3 64 a b c) (hz : -2147483648 ≤ z ∧ z < 2147483648) (h1 : 0 ≤ z → Wp B d y a L st M Q) (h2 : z < 0 → Wp B d y pc2 L st M Q) : Wp B d y pc L (I z :: st) M Q := by
  have hw : -2147483648 ≤ (0 : Int) ∧ (0 : Int) < 2147483648 := by decide
  have key : ∀ (E : eE) (lo : List (Nat × eV)) (h : eH), xget eF 7 opT 64 a b c E B (pc, lo, I z :: st, h) = some (.inl (if 0 ≤ z then (a, lo, st, h) else (pc + 3, lo, st, h))) := by
    intro E lo h
    show e_go (e_cmp 3 (e_rng B (cd z)) ((0 + 2147483648 : Int).toNat, (0 + 2147483648 : Int).toNat)) _ _ = _
    rw [e_rng_I B hz, e_cmp_I 3 (w := 0) hz hw (0 ≤ z) (Or.inr (Or.inr (Or.inr (Or.inl ⟨rfl, Int.not_lt.symm⟩)))), e_go_d]
  by_cases hp : 0 ≤ z
  · exact r_to hr rfl (fun E lo h _ _ => by rw [key, if_pos hp]) (h1 hp)
  · exact r_plain hr rfl (fun E lo h _ _ => by rw [key, if_neg hp]) (h2 (Int.not_le.mp hp))
theorem wk_icgt {B : eB} {d y pc pc2 : Nat} {L : List (Option eV)} {st : List eV} {M : Mm} {Q : Nat → eV → Mm → Prop} {a b c : Nat} {z w : Int} (hr : Rw y pc pc2 3 71 a b c) (hz : -2147483648 ≤ z ∧ z < 2147483648) (hw : -2147483648 ≤ w ∧ w < 2147483648) (h1 : w < z → Wp B d y a L st M Q) (h2 : z ≤ w → Wp B d y pc2 L st M Q) : Wp B d y pc L (I w :: I z :: st) M Q := by
  have key : ∀ (E : eE) (lo : List (Nat × eV)) (h : eH), xget eF 7 opT 71 a b c E B (pc, lo, I w :: I z :: st, h) = some (.inl (if w < z then (a, lo, st, h) else (pc + 3, lo, st, h))) := by
    intro E lo h
    show e_go (e_cmp 4 (e_rng B (cd z)) (e_rng B (cd w))) _ _ = _
    rw [e_rng_I B hz, e_rng_I B hw, e_cmp_I 4 hz hw (w < z) (Or.inr (Or.inr (Or.inr (Or.inr (Or.inl ⟨rfl, Iff.rfl⟩))))), e_go_d]
  by_cases hp : w < z
  · exact r_to hr rfl (fun E lo h _ _ => by rw [key, if_pos hp]) (h1 hp)
  · exact r_plain hr rfl (fun E lo h _ _ => by rw [key, if_neg hp]) (h2 (Int.not_lt.mp hp))
theorem wk_icle {B : eB} {d y pc pc2 : Nat} {L : List (Option eV)} {st : List eV} {M : Mm} {Q : Nat → eV → Mm → Prop} {a b c : Nat} {z w : Int} (hr : Rw y pc pc2 3 72 a b c) (hz : -2147483648 ≤ z ∧ z < 2147483648) (hw : -2147483648 ≤ w ∧ w < 2147483648) (h1 : z ≤ w → Wp B d y a L st M Q) (h2 : w < z → Wp B d y pc2 L st M Q) : Wp B d y pc L (I w :: I z :: st) M Q := by
  have key : ∀ (E : eE) (lo : List (Nat × eV)) (h : eH), xget eF 7 opT 72 a b c E B (pc, lo, I w :: I z :: st, h) = some (.inl (if z ≤ w then (a, lo, st, h) else (pc + 3, lo, st, h))) := by
    intro E lo h
    show e_go (e_cmp 5 (e_rng B (cd z)) (e_rng B (cd w))) _ _ = _
    rw [e_rng_I B hz, e_rng_I B hw, e_cmp_I 5 hz hw (z ≤ w) (Or.inr (Or.inr (Or.inr (Or.inr (Or.inr (⟨rfl, Int.not_lt.symm⟩)))))), e_go_d]
  by_cases hp : z ≤ w
  · exact r_to hr rfl (fun E lo h _ _ => by rw [key, if_pos hp]) (h1 hp)
  · exact r_plain hr rfl (fun E lo h _ _ => by rw [key, if_neg hp]) (h2 (Int.not_le.mp hp))
theorem wk_ifle {B : eB} {d y pc pc2 : Nat} {L : List (Option eV)} {st : List eV} {M : Mm} {Q : Nat → eV → Mm → Prop} {a b c : Nat} {z : Int} (hr : Rw y pc pc2 3 66 a b c) (hz : -2147483648 ≤ z ∧ z < 2147483648) (h1 : z ≤ 0 → Wp B d y a L st M Q) (h2 : 0 < z → Wp B d y pc2 L st M Q) : Wp B d y pc L (I z :: st) M Q := by
  have hw : -2147483648 ≤ (0 : Int) ∧ (0 : Int) < 2147483648 := by decide
  have key : ∀ (E : eE) (lo : List (Nat × eV)) (h : eH), xget eF 7 opT 66 a b c E B (pc, lo, I z :: st, h) = some (.inl (if z ≤ 0 then (a, lo, st, h) else (pc + 3, lo, st, h))) := by
    intro E lo h
    show e_go (e_cmp 5 (e_rng B (cd z)) ((0 + 2147483648 : Int).toNat, (0 + 2147483648 : Int).toNat)) _ _ = _
    rw [e_rng_I B hz, e_cmp_I 5 (w := 0) hz hw (z ≤ 0) (Or.inr (Or.inr (Or.inr (Or.inr (Or.inr (⟨rfl, Int.not_lt.symm⟩)))))), e_go_d]
  by_cases hp : z ≤ 0
  · exact r_to hr rfl (fun E lo h _ _ => by rw [key, if_pos hp]) (h1 hp)
  · exact r_plain hr rfl (fun E lo h _ _ => by rw [key, if_neg hp]) (h2 (Int.not_le.mp hp))
