/-! ===== written by program (wip/layer2/rules2.py): cells, calls, ends ===== -/
/-- a field: whose class, which, its type -/
def Fdl (a : Int) (k b : Nat) (bi : Int) (t : Nat) : Prop := 0 ≤ a ∧ a.toNat < 770 ∧ kd a.toNat = k ∧ b < ln a.toNat ∧ (b : Int) = bi ∧ tyk k b = t
/-- a row of things: its kind, its length -/
def Ar (a : Int) (k : Nat) (n : Int) : Prop := 0 ≤ a ∧ a.toNat < 770 ∧ kd a.toNat = k ∧ (ln a.toNat : Int) = n ∧ ln a.toNat ≤ 1000000
noncomputable def fdb (a k b t : Nat) : Bool := Nat.ble (a + 1) 770 && Nat.beq (kd a) k && Nat.ble (b + 1) (ln a) && Nat.beq (tyk k b) t
noncomputable def arb (a k n : Nat) : Bool := Nat.ble (a + 1) 770 && Nat.beq (kd a) k && Nat.beq (ln a) n && Nat.ble n 1000000
theorem fd_of {a : Int} {k b t : Nat} {bi : Int} (h0 : 0 ≤ a) (hb : (b : Int) = bi) (h : fdb a.toNat k b t = true) : Fdl a k b bi t := by
  unfold fdb at h
  simp only [Bool.and_eq_true] at h
  exact ⟨h0, Nat.le_of_ble_eq_true h.1.1.1, Nat.eq_of_beq_eq_true h.1.1.2, Nat.le_of_ble_eq_true h.1.2, hb, Nat.eq_of_beq_eq_true h.2⟩
theorem ar_of {a n : Int} {k : Nat} (h0 : 0 ≤ a) (hn : 0 ≤ n) (h : arb a.toNat k n.toNat = true) : Ar a k n := by
  unfold arb at h
  simp only [Bool.and_eq_true] at h
  have e := Nat.eq_of_beq_eq_true h.1.2
  exact ⟨h0, Nat.le_of_ble_eq_true h.1.1.1, Nat.eq_of_beq_eq_true h.1.1.2, by rw [e]; omega, by rw [e]; exact Nat.le_of_ble_eq_true h.2⟩
theorem V_get {h : eH} {M : Mm} (hV : V h M) {a : Nat} (ha : a < 770) : e_get h a = (kd a, ln a, (e_get h a).2.2) := by
  have := hV.2.2.2.2 a ha
  rw [← this.1, ← this.2.1]
theorem V_at {h : eH} {M : Mm} (hV : V h M) {a i : Nat} (ha : a < 770) (hi : i < ln a) : (e_get h a).2.2 i = dv (tyk (kd a) i) (M a i) := (hV.2.2.2.2 a ha).2.2 i hi
theorem b_and {a b : Bool} (h1 : a = true) (h2 : b = true) : (a && b) = true := by rw [h1, h2]; rfl
theorem V_set {h : eH} {M : Mm} (hV : V h M) {a i z : Int} (h0 : 0 ≤ a) (ha : a.toNat < 770) (hi0 : 0 ≤ i) (hi : i.toNat < ln a.toNat) {v : eV} (hv : v = dv (tyk (kd a.toNat) i.toNat) z) : V (e_set h a.toNat (kd a.toNat, ln a.toNat, e_up (e_get h a.toNat).2.2 i.toNat v)) (mUp M a i z) := by
  obtain ⟨h1, h2, h3, h4, h5⟩ := hV
  have em : mUp M a i z (-1) 0 = M (-1) 0 := mUp_ne (Or.inl (by omega))
  refine ⟨h1, by rw [em]; exact h2, by rw [em]; exact h3, by rw [em]; exact h4, fun q hq => ?_⟩
  rw [e_get_set (by show a.toNat < 1024; omega) (by show q < 1024; omega)]
  by_cases e : q = a.toNat
  · subst e
    rw [if_pos rfl]
    refine ⟨rfl, rfl, fun j hj => ?_⟩
    show cond (Nat.beq j i.toNat) v ((e_get h a.toNat).2.2 j) = _
    by_cases e2 : j = i.toNat
    · subst e2
      rw [Nat.beq_refl, Int.toNat_of_nonneg h0, Int.toNat_of_nonneg hi0, mUp_eq]
      exact hv
    · rw [bf e2, mUp_ne (Or.inr (by omega))]
      exact (h5 _ hq).2.2 j hj
  · rw [if_neg e]
    refine ⟨(h5 q hq).1, (h5 q hq).2.1, fun j hj => ?_⟩
    rw [mUp_ne (Or.inl (by omega))]
    exact (h5 q hq).2.2 j hj
theorem V_fil {h : eH} {M : Mm} (hV : V h M) {a z : Int} (h0 : 0 ≤ a) (ha : a.toNat < 770) {v : eV} (hv : ∀ i, i < ln a.toNat → v = dv (tyk (kd a.toNat) i) z) : V (e_set h a.toNat (kd a.toNat, ln a.toNat, fun _ => v)) (fil M a z) := by
  obtain ⟨h1, h2, h3, h4, h5⟩ := hV
  have em : fil M a z (-1) 0 = M (-1) 0 := fil_ne (by omega)
  refine ⟨h1, by rw [em]; exact h2, by rw [em]; exact h3, by rw [em]; exact h4, fun q hq => ?_⟩
  rw [e_get_set (by show a.toNat < 1024; omega) (by show q < 1024; omega)]
  by_cases e : q = a.toNat
  · subst e
    rw [if_pos rfl]
    refine ⟨rfl, rfl, fun j hj => ?_⟩
    rw [Int.toNat_of_nonneg h0, fil_eq]
    exact hv j hj
  · rw [if_neg e]
    refine ⟨(h5 q hq).1, (h5 q hq).2.1, fun j hj => ?_⟩
    rw [fil_ne (by omega)]
    exact (h5 q hq).2.2 j hj
theorem wk_getf {B : eB} {d y pc pc2 : Nat} {L : List (Option eV)} {st : List eV} {M : Mm} {Q : Nat → eV → Mm → Prop} {k b c t : Nat} {a bi z : Int} (hr : Rw y pc pc2 3 80 k b c) (hf : Fdl a k b bi t) (hv : M a bi = z) (hk : Wp B d y pc2 L (dv t z :: st) M Q) : Wp B d y pc L (R a :: st) M Q :=
  r_plain hr rfl (fun E lo h hV _ => by
    obtain ⟨f1, f2, f3, f4, f5, f6⟩ := hf
    show (match e_get h a.toNat with
      | (k', n, f) => cond (Nat.ble (a.toNat + 1) (e_sz h) && Nat.ble a.toNat 1023 && Nat.beq k' k && Nat.ble (b + 1) n) (eN (pc + 3) lo (f b :: st) h) none) = _
    rw [V_get hV f2]
    show cond (Nat.ble (a.toNat + 1) (e_sz h) && Nat.ble a.toNat 1023 && Nat.beq (kd a.toNat) k && Nat.ble (b + 1) (ln a.toNat)) (eN (pc + 3) lo ((e_get h a.toNat).2.2 b :: st) h) none = _
    rw [b_and (b_and (b_and (Nat.ble_eq_true_of_le (by rw [hV.1]; exact f2)) (Nat.ble_eq_true_of_le (by omega))) (by rw [f3]; exact Nat.beq_refl _)) (Nat.ble_eq_true_of_le f4), V_at hV f2 f4, f3, f6, f5, Int.toNat_of_nonneg f1, hv]
    rfl) hk
theorem wk_getfi {B : eB} {d y pc pc2 : Nat} {L : List (Option eV)} {st : List eV} {M : Mm} {Q : Nat → eV → Mm → Prop} {k b c : Nat} {a bi z : Int} (hr : Rw y pc pc2 3 80 k b c) (hf : Fdl a k b bi 0) (hv : M a bi = z) (hk : Wp B d y pc2 L (I z :: st) M Q) : Wp B d y pc L (R a :: st) M Q := wk_getf hr hf hv hk
theorem wk_getfl {B : eB} {d y pc pc2 : Nat} {L : List (Option eV)} {st : List eV} {M : Mm} {Q : Nat → eV → Mm → Prop} {k b c : Nat} {a bi : Int} {z : Nat} (hr : Rw y pc pc2 3 80 k b c) (hf : Fdl a k b bi 1) (hv : (M a bi).toNat = z) (hk : Wp B d y pc2 L (J z :: st) M Q) : Wp B d y pc L (R a :: st) M Q := wk_getf hr hf rfl (by rw [← hv] at hk; exact hk)
theorem wk_getfr {B : eB} {d y pc pc2 : Nat} {L : List (Option eV)} {st : List eV} {M : Mm} {Q : Nat → eV → Mm → Prop} {k b c : Nat} {a bi z : Int} (hr : Rw y pc pc2 3 80 k b c) (hf : Fdl a k b bi 2) (hv : M a bi = z) (hk : Wp B d y pc2 L (R z :: st) M Q) : Wp B d y pc L (R a :: st) M Q := wk_getf hr hf hv hk
theorem g_putf81 {B : eB} {d y pc pc2 : Nat} {L : List (Option eV)} {st : List eV} {M : Mm} {Q : Nat → eV → Mm → Prop} {k b c t : Nat} {a bi z : Int} {v : eV} (hr : Rw y pc pc2 3 81 k b c) (hf : Fdl a k b bi t) (hv : v = dv t z) (ht : e_typ c v = true) (hk : Wp B d y pc2 L st (mUp M a bi z) Q) : Wp B d y pc L (v :: R a :: st) M Q :=
  r_step hr rfl (fun E lo h hV hA => by
    obtain ⟨f1, f2, f3, f4, f5, f6⟩ := hf
    refine ⟨lo, e_set h a.toNat (kd a.toNat, ln a.toNat, e_up (e_get h a.toNat).2.2 b v), ?_, Nat.le_refl _, Nat.le_refl _, ?_, hA⟩
    · show (match e_get h a.toNat with
        | (k', n, f) => cond (Nat.ble (a.toNat + 1) (e_sz h) && Nat.ble a.toNat 1023 && Nat.beq k' k && Nat.ble (b + 1) n && e_typ c v) (eN (pc + 3) lo st (e_set h a.toNat (k', n, e_up f b v))) none) = _
      rw [V_get hV f2]
      show cond (Nat.ble (a.toNat + 1) (e_sz h) && Nat.ble a.toNat 1023 && Nat.beq (kd a.toNat) k && Nat.ble (b + 1) (ln a.toNat) && e_typ c v) _ none = _
      rw [b_and (b_and (b_and (b_and (Nat.ble_eq_true_of_le (by rw [hV.1]; exact f2)) (Nat.ble_eq_true_of_le (by omega))) (by rw [f3]; exact Nat.beq_refl _)) (Nat.ble_eq_true_of_le f4)) ht]
      rfl
    · have := V_set hV (a := a) (i := bi) (z := z) f1 f2 (by omega) (by omega) (v := v) (by rw [f3, show bi.toNat = b by omega, f6]; exact hv)
      rw [show bi.toNat = b by omega] at this
      exact this) hk
theorem wk_putfi81 {B : eB} {d y pc pc2 : Nat} {L : List (Option eV)} {st : List eV} {M : Mm} {Q : Nat → eV → Mm → Prop} {k b : Nat} {a bi z : Int} (hr : Rw y pc pc2 3 81 k b 0) (hf : Fdl a k b bi 0) (hk : Wp B d y pc2 L st (mUp M a bi z) Q) : Wp B d y pc L (I z :: R a :: st) M Q := g_putf81 hr hf rfl rfl hk
theorem wk_putfz81 {B : eB} {d y pc pc2 : Nat} {L : List (Option eV)} {st : List eV} {M : Mm} {Q : Nat → eV → Mm → Prop} {k b : Nat} {a bi z : Int} (hr : Rw y pc pc2 3 81 k b 1) (hf : Fdl a k b bi 0) (hz : 0 ≤ z ∧ z ≤ 1) (hk : Wp B d y pc2 L st (mUp M a bi z) Q) : Wp B d y pc L (I z :: R a :: st) M Q := g_putf81 hr hf rfl (by
  show (Nat.beq 1 0 || (Nat.beq 1 1 && Nat.ble (cd z) 1) || _) = true
  rw [show Nat.ble (cd z) 1 = true from Nat.ble_eq_true_of_le (by unfold cd; omega)]
  rfl) hk
theorem wk_putfl81 {B : eB} {d y pc pc2 : Nat} {L : List (Option eV)} {st : List eV} {M : Mm} {Q : Nat → eV → Mm → Prop} {k b n : Nat} {a bi : Int} (hr : Rw y pc pc2 3 81 k b 2) (hf : Fdl a k b bi 1) (hk : Wp B d y pc2 L st (mUp M a bi (n : Int)) Q) : Wp B d y pc L (J n :: R a :: st) M Q := g_putf81 (t := 1) (z := (n : Int)) hr hf rfl rfl hk
theorem wk_putfr81 {B : eB} {d y pc pc2 : Nat} {L : List (Option eV)} {st : List eV} {M : Mm} {Q : Nat → eV → Mm → Prop} {k b : Nat} {a bi z : Int} (hr : Rw y pc pc2 3 81 k b 3) (hf : Fdl a k b bi 2) (hk : Wp B d y pc2 L st (mUp M a bi z) Q) : Wp B d y pc L (R z :: R a :: st) M Q := g_putf81 (t := 2) hr hf rfl rfl hk
theorem g_xald {B : eB} {d y pc pc2 : Nat} {L : List (Option eV)} {st : List eV} {M : Mm} {Q : Nat → eV → Mm → Prop} {op a9 b9 c9 k c t : Nat} {a n i z : Int} (hr : Rw y pc pc2 1 op a9 b9 c9) (hop : Nat.ble op 127 = true) (hf : xget eF 7 opT op = f_xald k c) (ha : Ar a k n) (hi : 0 ≤ i ∧ i < n) (hv : M a i = z) (ht : ∀ j, tyk k j = t) (hty : e_typ c (dv t z) = true) (hk : Wp B d y pc2 L (dv t z :: st) M Q) : Wp B d y pc L (I i :: R a :: st) M Q :=
  r_plain hr hop (fun E lo h hV _ => by
    obtain ⟨f1, f2, f3, f4, f5⟩ := ha
    have e : cd i = i.toNat := cd_pos hi.1 (by omega)
    have hlt : i.toNat < ln a.toNat := by omega
    have key : e_at k h a.toNat (cd i) = some (dv t z) := by
      unfold e_at
      rw [V_get hV f2, e]
      show cond (Nat.ble (a.toNat + 1) (e_sz h) && Nat.ble a.toNat 1023 && Nat.beq (kd a.toNat) k && Nat.ble (i.toNat + 1) (ln a.toNat) && Nat.ble (ln a.toNat) 1000000) (some ((e_get h a.toNat).2.2 i.toNat)) none = _
      rw [b_and (b_and (b_and (b_and (Nat.ble_eq_true_of_le (by rw [hV.1]; exact f2)) (Nat.ble_eq_true_of_le (by omega))) (by rw [f3]; exact Nat.beq_refl _)) (Nat.ble_eq_true_of_le hlt)) (Nat.ble_eq_true_of_le f5), V_at hV f2 hlt, f3, ht, Int.toNat_of_nonneg f1, Int.toNat_of_nonneg hi.1, hv]
      rfl
    rw [hf]
    show (match e_at k h a.toNat (cd i) with
      | some v => cond (e_typ c v) (eN (pc + 1) lo (v :: st) h) none
      | none => none) = _
    rw [key]
    show cond (e_typ c (dv t z)) _ none = _
    rw [hty]
    rfl) hk
theorem wk_iald {B : eB} {d y pc pc2 : Nat} {L : List (Option eV)} {st : List eV} {M : Mm} {Q : Nat → eV → Mm → Prop} {a b c : Nat} {o n i z : Int} (hr : Rw y pc pc2 1 83 a b c) (ha : Ar o 100 n) (hi : 0 ≤ i ∧ i < n) (hv : M o i = z) (hk : Wp B d y pc2 L (I z :: st) M Q) : Wp B d y pc L (I i :: R o :: st) M Q := g_xald (t := 0) hr rfl rfl ha hi hv (fun _ => rfl) rfl hk
theorem wk_lald {B : eB} {d y pc pc2 : Nat} {L : List (Option eV)} {st : List eV} {M : Mm} {Q : Nat → eV → Mm → Prop} {a b c : Nat} {o n i : Int} {z : Nat} (hr : Rw y pc pc2 1 84 a b c) (ha : Ar o 102 n) (hi : 0 ≤ i ∧ i < n) (hv : (M o i).toNat = z) (hk : Wp B d y pc2 L (J z :: st) M Q) : Wp B d y pc L (I i :: R o :: st) M Q := g_xald (t := 1) hr rfl rfl ha hi rfl (fun _ => rfl) rfl (by rw [← hv] at hk; exact hk)
theorem wk_bald {B : eB} {d y pc pc2 : Nat} {L : List (Option eV)} {st : List eV} {M : Mm} {Q : Nat → eV → Mm → Prop} {a b c : Nat} {o n i z : Int} (hr : Rw y pc pc2 1 85 a b c) (ha : Ar o 101 n) (hi : 0 ≤ i ∧ i < n) (hv : M o i = z) (hk : Wp B d y pc2 L (I z :: st) M Q) : Wp B d y pc L (I i :: R o :: st) M Q := g_xald (t := 0) hr rfl rfl ha hi hv (fun _ => rfl) rfl hk
theorem wk_cald {B : eB} {d y pc pc2 : Nat} {L : List (Option eV)} {st : List eV} {M : Mm} {Q : Nat → eV → Mm → Prop} {a b c : Nat} {o n i z : Int} (hr : Rw y pc pc2 1 86 a b c) (ha : Ar o 103 n) (hi : 0 ≤ i ∧ i < n) (hv : M o i = z) (hk : Wp B d y pc2 L (R z :: st) M Q) : Wp B d y pc L (I i :: R o :: st) M Q := g_xald (t := 2) hr rfl rfl ha hi hv (fun _ => rfl) rfl hk
theorem wk_rald {B : eB} {d y pc pc2 : Nat} {L : List (Option eV)} {st : List eV} {M : Mm} {Q : Nat → eV → Mm → Prop} {a b c : Nat} {o n i z : Int} (hr : Rw y pc pc2 1 87 a b c) (ha : Ar o 104 n) (hi : 0 ≤ i ∧ i < n) (hv : M o i = z) (hk : Wp B d y pc2 L (R z :: st) M Q) : Wp B d y pc L (I i :: R o :: st) M Q := g_xald (t := 2) hr rfl rfl ha hi hv (fun _ => rfl) rfl hk
theorem g_xast {B : eB} {d y pc pc2 : Nat} {L : List (Option eV)} {st : List eV} {M : Mm} {Q : Nat → eV → Mm → Prop} {op a9 b9 c9 k c t : Nat} {a n i z : Int} {v : eV} (hr : Rw y pc pc2 1 op a9 b9 c9) (hop : Nat.ble op 127 = true) (hf : xget eF 7 opT op = f_xast k c) (ha : Ar a k n) (hi : 0 ≤ i ∧ i < n) (ht : ∀ j, tyk k j = t) (hv : v = dv t z) (hty : e_typ c v = true) (hk : Wp B d y pc2 L st (mUp M a i z) Q) : Wp B d y pc L (v :: I i :: R a :: st) M Q :=
  r_step hr hop (fun E lo h hV hA => by
    obtain ⟨f1, f2, f3, f4, f5⟩ := ha
    have e : cd i = i.toNat := cd_pos hi.1 (by omega)
    have hlt : i.toNat < ln a.toNat := by omega
    refine ⟨lo, e_set h a.toNat (kd a.toNat, ln a.toNat, e_up (e_get h a.toNat).2.2 i.toNat v), ?_, Nat.le_refl _, Nat.le_refl _, ?_, hA⟩
    · rw [hf]
      show (match e_get h a.toNat with
        | (k', n, f) => cond (Nat.ble (a.toNat + 1) (e_sz h) && Nat.ble a.toNat 1023 && Nat.beq k' k && Nat.ble (cd i + 1) n && Nat.ble n 1000000 && e_typ c v) (eN (pc + 1) lo st (e_set h a.toNat (k', n, e_up f (cd i) v))) none) = _
      rw [V_get hV f2, e]
      show cond (Nat.ble (a.toNat + 1) (e_sz h) && Nat.ble a.toNat 1023 && Nat.beq (kd a.toNat) k && Nat.ble (i.toNat + 1) (ln a.toNat) && Nat.ble (ln a.toNat) 1000000 && e_typ c v) _ none = _
      rw [b_and (b_and (b_and (b_and (b_and (Nat.ble_eq_true_of_le (by rw [hV.1]; exact f2)) (Nat.ble_eq_true_of_le (by omega))) (by rw [f3]; exact Nat.beq_refl _)) (Nat.ble_eq_true_of_le hlt)) (Nat.ble_eq_true_of_le f5)) hty]
      rfl
    · exact V_set hV f1 f2 hi.1 hlt (by rw [f3, ht]; exact hv)) hk
theorem wk_iast {B : eB} {d y pc pc2 : Nat} {L : List (Option eV)} {st : List eV} {M : Mm} {Q : Nat → eV → Mm → Prop} {a b c : Nat} {o n i z : Int} (hr : Rw y pc pc2 1 88 a b c) (ha : Ar o 100 n) (hi : 0 ≤ i ∧ i < n) (hk : Wp B d y pc2 L st (mUp M o i z) Q) : Wp B d y pc L (I z :: I i :: R o :: st) M Q := g_xast (t := 0) hr rfl rfl ha hi (fun _ => rfl) rfl rfl hk
theorem wk_last {B : eB} {d y pc pc2 : Nat} {L : List (Option eV)} {st : List eV} {M : Mm} {Q : Nat → eV → Mm → Prop} {a b c : Nat} {o n i : Int} {z : Nat} (hr : Rw y pc pc2 1 89 a b c) (ha : Ar o 102 n) (hi : 0 ≤ i ∧ i < n) (hk : Wp B d y pc2 L st (mUp M o i (z : Int)) Q) : Wp B d y pc L (J z :: I i :: R o :: st) M Q := g_xast (t := 1) (z := (z : Int)) hr rfl rfl ha hi (fun _ => rfl) rfl rfl hk
theorem wk_bast {B : eB} {d y pc pc2 : Nat} {L : List (Option eV)} {st : List eV} {M : Mm} {Q : Nat → eV → Mm → Prop} {a b c : Nat} {o n i z : Int} (hr : Rw y pc pc2 1 90 a b c) (ha : Ar o 101 n) (hi : 0 ≤ i ∧ i < n) (hz : -128 ≤ z ∧ z ≤ 127) (hk : Wp B d y pc2 L st (mUp M o i z) Q) : Wp B d y pc L (I z :: I i :: R o :: st) M Q := g_xast (t := 0) hr rfl rfl ha hi (fun _ => rfl) rfl (by
  show (Nat.beq 4 0 || (Nat.beq 4 1 && Nat.ble (cd z) 1) || (Nat.beq 4 4 && (Nat.ble (cd z) 127 || (Nat.ble 4294967168 (cd z) && l32 (cd z))))) = true
  rw [cd_l32]
  rcases Int.lt_or_le z 0 with h | h
  · rw [show Nat.ble 4294967168 (cd z) = true from Nat.ble_eq_true_of_le (by unfold cd; omega), Bool.and_true, Bool.or_true]
    rfl
  · rw [show Nat.ble (cd z) 127 = true from Nat.ble_eq_true_of_le (by unfold cd; omega)]
    rfl) hk
theorem wk_alen {B : eB} {d y pc pc2 : Nat} {L : List (Option eV)} {st : List eV} {M : Mm} {Q : Nat → eV → Mm → Prop} {a b c : Nat} {o n : Int} {k : Nat} (hr : Rw y pc pc2 1 92 a b c) (ha : Ar o k n) (hk9 : 100 ≤ k ∧ k ≤ 104) (hk : Wp B d y pc2 L (I n :: st) M Q) : Wp B d y pc L (R o :: st) M Q :=
  r_plain hr rfl (fun E lo h hV _ => by
    obtain ⟨f1, f2, f3, f4, f5⟩ := ha
    show (match e_get h o.toNat with
      | (k', n, _) => cond (Nat.ble (o.toNat + 1) (e_sz h) && Nat.ble o.toNat 1023 && Nat.ble 100 k' && Nat.ble k' 104 && Nat.ble n 1000000) (eN (pc + 1) lo (.inl n :: st) h) none) = _
    rw [V_get hV f2]
    show cond (Nat.ble (o.toNat + 1) (e_sz h) && Nat.ble o.toNat 1023 && Nat.ble 100 (kd o.toNat) && Nat.ble (kd o.toNat) 104 && Nat.ble (ln o.toNat) 1000000) (eN (pc + 1) lo (.inl (ln o.toNat) :: st) h) none = _
    rw [b_and (b_and (b_and (b_and (Nat.ble_eq_true_of_le (by rw [hV.1]; exact f2)) (Nat.ble_eq_true_of_le (by omega))) (Nat.ble_eq_true_of_le (by rw [f3]; exact hk9.1))) (Nat.ble_eq_true_of_le (by rw [f3]; exact hk9.2))) (Nat.ble_eq_true_of_le f5), show ln o.toNat = cd n by unfold cd; omega]
    rfl) hk
theorem wk_kald {B : eB} {d y pc pc2 : Nat} {L : List (Option eV)} {st : List eV} {M : Mm} {Q : Nat → eV → Mm → Prop} {a b c : Nat} {i : Int} (hr : Rw y pc pc2 1 23 a b c) (hi : 0 ≤ i ∧ i ≤ 5) (hk : ∀ z : Int, 0 ≤ z → z ≤ 4 → z = (if i ≤ 2 then i else i - 1) → Wp B d y pc2 L (I z :: st) M Q) : Wp B d y pc L (I i :: R 4095 :: st) M Q := by
  refine r_plain hr rfl (fun E lo h _ _ => ?_) (hk (if i ≤ 2 then i else i - 1) (by split <;> omega) (by split <;> omega) rfl)
  have e : cd i = i.toNat := cd_pos hi.1 (by omega)
  show cond (Nat.beq 4095 4095 && Nat.ble (cd i) 5) (eN (pc + 1) lo (.inl (e_kind (cd i)) :: st) h) none = _
  rw [e, show Nat.ble i.toNat 5 = true from Nat.ble_eq_true_of_le (by omega)]
  show eN (pc + 1) lo (.inl (e_kind i.toNat) :: st) h = eN (pc + 1) lo (.inl (cd (if i ≤ 2 then i else i - 1)) :: st) h
  refine congrArg (fun x : Nat => eN (pc + 1) lo ((Sum.inl x : eV) :: st) h) ?_
  unfold e_kind
  by_cases h2 : i ≤ 2
  · rw [if_pos h2, show Nat.ble i.toNat 2 = true from Nat.ble_eq_true_of_le (by omega)]
    show i.toNat = _
    unfold cd
    omega
  · rw [if_neg h2, show Nat.ble i.toNat 2 = false from by rw [Bool.eq_false_iff]; intro q; have := Nat.le_of_ble_eq_true q; omega]
    show i.toNat - 1 = _
    unfold cd
    omega
theorem wk_min {B : eB} {d y pc pc2 : Nat} {L : List (Option eV)} {st : List eV} {M : Mm} {Q : Nat → eV → Mm → Prop} {a b c : Nat} {z w : Int} (hr : Rw y pc pc2 3 114 a b c) (hz : -2147483648 ≤ z ∧ z < 2147483648) (hw : -2147483648 ≤ w ∧ w < 2147483648) (hc : Nat.ble (e_cat st) 8 = true) (hk : ∀ r : Int, r ≤ z → r ≤ w → (r = z ∨ r = w) → Wp B d y pc2 L (I r :: st) M Q) : Wp B d y pc L (I w :: I z :: st) M Q := by
  have key : ∀ (E : eE) (lo : List (Nat × eV)) (h : eH), xget eF 7 opT 114 a b c E B (pc, lo, I w :: I z :: st, h) = eN (pc + 3) lo (I (if w < z then w else z) :: st) h := by
    intro E lo h
    show cond (Nat.ble (e_cat st) 8) (match e_lt (e_rng B (cd w)) (e_rng B (cd z)) with
      | some true => eN (pc + 3) lo (.inl (cd w) :: st) h
      | some false => eN (pc + 3) lo (.inl (cd z) :: st) h
      | none => none) none = _
    rw [hc, e_rng_I B hz, e_rng_I B hw, e_lt_I hw hz]
    by_cases hp : w < z
    · rw [decide_eq_true hp, if_pos hp]
      rfl
    · rw [decide_eq_false hp, if_neg hp]
      rfl
  refine r_plain hr rfl (fun E lo h _ _ => key E lo h) (hk (if w < z then w else z) (by split <;> omega) (by split <;> omega) (by split <;> simp))
theorem wk_iret {B : eB} {d y pc pc2 n9 : Nat} {L : List (Option eV)} {M : Mm} {Q : Nat → eV → Mm → Prop} {b c : Nat} {z : Int} (hr : Rw y pc pc2 n9 74 0 b c) (hq : Q 1 (I z) M) : Wp B d y pc L [I z] M Q :=
  r_end hr rfl (fun lo h hV _ => ⟨(1, I z, h), M, rfl, Nat.le_refl _, Nat.le_refl _, hV, hq⟩)
theorem wk_zret {B : eB} {d y pc pc2 n9 : Nat} {L : List (Option eV)} {M : Mm} {Q : Nat → eV → Mm → Prop} {b c : Nat} {z : Int} (hr : Rw y pc pc2 n9 74 1 b c) (hz : 0 ≤ z ∧ z ≤ 1) (hq : Q 1 (I z) M) : Wp B d y pc L [I z] M Q :=
  r_end hr rfl (fun lo h hV _ => ⟨(1, I z, h), M, by
    show cond (true && (Nat.beq 1 0 || Nat.ble (cd z) 1)) (some (.inr (1, I z, h)) : eR) none = _
    rw [show Nat.ble (cd z) 1 = true from Nat.ble_eq_true_of_le (by unfold cd; omega)]
    rfl, Nat.le_refl _, Nat.le_refl _, hV, hq⟩)
theorem wk_lret {B : eB} {d y pc pc2 n9 : Nat} {L : List (Option eV)} {M : Mm} {Q : Nat → eV → Mm → Prop} {a b c : Nat} {z : Nat} (hr : Rw y pc pc2 n9 75 a b c) (hq : Q 1 (J z) M) : Wp B d y pc L [J z] M Q :=
  r_end hr rfl (fun lo h hV _ => ⟨(1, J z, h), M, rfl, Nat.le_refl _, Nat.le_refl _, hV, hq⟩)
theorem wk_aret {B : eB} {d y pc pc2 n9 : Nat} {L : List (Option eV)} {M : Mm} {Q : Nat → eV → Mm → Prop} {a b c : Nat} {z : Int} (hr : Rw y pc pc2 n9 76 a b c) (hq : Q 1 (R z) M) : Wp B d y pc L [R z] M Q :=
  r_end hr rfl (fun lo h hV _ => ⟨(1, R z, h), M, rfl, Nat.le_refl _, Nat.le_refl _, hV, hq⟩)
theorem wk_ret {B : eB} {d y pc pc2 n9 : Nat} {L : List (Option eV)} {M : Mm} {Q : Nat → eV → Mm → Prop} {a b c : Nat} (hr : Rw y pc pc2 n9 77 a b c) (hq : Q 0 (.inl 0) M) : Wp B d y pc L [] M Q :=
  r_end hr rfl (fun lo h hV _ => ⟨(0, .inl 0, h), M, rfl, Nat.le_refl _, Nat.le_refl _, hV, hq⟩)
theorem V_thr {h : eH} {M : Mm} (hV : V h M) : V (e_thr h) (mUp M (-1) 0 (M (-1) 0 + 1)) := by
  obtain ⟨h1, h2, h3, h4, h5⟩ := hV
  refine ⟨h1, by rw [mUp_eq]; omega, ?_, ?_, fun q hq => ⟨(h5 q hq).1, (h5 q hq).2.1, fun j hj => ?_⟩⟩
  · rw [mUp_eq]
    show e_cn h + 1 = _
    omega
  · rw [mUp_eq]
    show e_sl h + 6 = _
    omega
  · rw [mUp_ne (Or.inl (by omega))]
    exact (h5 q hq).2.2 j hj
theorem wk_thr105 {B : eB} {d y pc pc2 : Nat} {L : List (Option eV)} {st : List eV} {M : Mm} {Q : Nat → eV → Mm → Prop} {a b c n : Nat} (hr : Rw y pc pc2 n 105 a b c) (hc : Nat.ble (e_cat st) 8 = true) (hq : Q (a + 2) (.inl 0) (mUp M (-1) 0 (M (-1) 0 + 1))) : Wp B d y pc L st M Q :=
  r_end hr rfl (fun lo h hV _ => ⟨(a + 2, .inl 0, e_thr h), _, by
    show cond (Nat.ble (e_cat st) 8) (some (.inr (a + 2, .inl 0, e_thr h)) : eR) none = _
    rw [hc]
    rfl, Nat.le_succ _, Nat.le_add_right _ _, V_thr hV, hq⟩)
theorem wk_thr112 {B : eB} {d y pc pc2 : Nat} {L : List (Option eV)} {st : List eV} {M : Mm} {Q : Nat → eV → Mm → Prop} {a b c n : Nat} (hr : Rw y pc pc2 n 112 a b c) (hc : Nat.ble (e_cat st) 8 = true) (hq : Q (a + 2) (.inl 0) (mUp M (-1) 0 (M (-1) 0 + 1))) : Wp B d y pc L st M Q :=
  r_end hr rfl (fun lo h hV _ => ⟨(a + 2, .inl 0, e_thr h), _, by
    show cond (Nat.ble (e_cat st) 8) (some (.inr (a + 2, .inl 0, e_thr h)) : eR) none = _
    rw [hc]
    rfl, Nat.le_succ _, Nat.le_add_right _ _, V_thr hV, hq⟩)
theorem wk_sw0 {B : eB} {d y pc pc2 : Nat} {L : List (Option eV)} {st : List eV} {M : Mm} {Q : Nat → eV → Mm → Prop} {b c n9 : Nat} {z : Int} (hr : Rw y pc pc2 n9 73 0 b c) (hz : -2147483648 ≤ z ∧ z < 2147483648) (hd : z < 0 ∨ 25 ≤ z → Wp B d y 919 L st M Q) (h0 : z = 0 → Wp B d y 156 L st M Q) (h1 : z = 1 → Wp B d y 229 L st M Q) (h2 : z = 2 → Wp B d y 257 L st M Q) (h3 : z = 3 → Wp B d y 285 L st M Q) (h4 : z = 4 → Wp B d y 298 L st M Q) (h5 : z = 5 → Wp B d y 326 L st M Q) (h6 : z = 6 → Wp B d y 366 L st M Q) (h7 : z = 7 → Wp B d y 406 L st M Q) (h8 : z = 8 → Wp B d y 458 L st M Q) (h9 : z = 9 → Wp B d y 471 L st M Q) (h10 : z = 10 → Wp B d y 499 L st M Q) (h11 : z = 11 → Wp B d y 539 L st M Q) (h12 : z = 12 → Wp B d y 567 L st M Q) (h13 : z = 13 → Wp B d y 595 L st M Q) (h14 : z = 14 → Wp B d y 635 L st M Q) (h15 : z = 15 → Wp B d y 648 L st M Q) (h16 : z = 16 → Wp B d y 676 L st M Q) (h17 : z = 17 → Wp B d y 689 L st M Q) (h18 : z = 18 → Wp B d y 717 L st M Q) (h19 : z = 19 → Wp B d y 757 L st M Q) (h20 : z = 20 → Wp B d y 785 L st M Q) (h21 : z = 21 → Wp B d y 798 L st M Q) (h22 : z = 22 → Wp B d y 835 L st M Q) (h23 : z = 23 → Wp B d y 863 L st M Q) (h24 : z = 24 → Wp B d y 891 L st M Q) : Wp B d y pc L (I z :: st) M Q := by
  have hw1 : -2147483648 ≤ (0 : Int) ∧ (0 : Int) < 2147483648 := by decide
  have hw2 : -2147483648 ≤ (25 : Int) ∧ (25 : Int) < 2147483648 := by decide
  have key : ∀ (E : eE) (lo : List (Nat × eV)) (h : eH), xget eF 7 opT 73 0 b c E B (pc, lo, I z :: st, h) = (match some (decide (z < 0)) with
      | some true => eN 919 lo st h
      | some false => match some (decide (z < 25)) with
        | some false => eN 919 lo st h
        | some true => cond (l32 (cd z)) (match ([156, 229, 257, 285, 298, 326, 366, 406, 458, 471, 499, 539, 567, 595, 635, 648, 676, 689, 717, 757, 785, 798, 835, 863, 891] : List Nat)[cd z - 0]? with
          | some t => eN t lo st h
          | none => none) none
        | none => none
      | none => none) := by
    intro E lo h
    rw [← e_lt_I hz hw1, ← e_lt_I hz hw2, ← e_rng_I B hz]
    rfl
  rcases Int.lt_or_le z 0 with q | q
  · refine r_to hr rfl (fun E lo h _ _ => ?_) (hd (Or.inl q))
    rw [key, decide_eq_true q]
  rcases Int.lt_or_le z 25 with q2 | q2
  · by_cases e0 : z = 0
    · refine r_to hr rfl (fun E lo h _ _ => ?_) (h0 e0)
      subst e0
      rw [key]
      rfl
    by_cases e1 : z = 1
    · refine r_to hr rfl (fun E lo h _ _ => ?_) (h1 e1)
      subst e1
      rw [key]
      rfl
    by_cases e2 : z = 2
    · refine r_to hr rfl (fun E lo h _ _ => ?_) (h2 e2)
      subst e2
      rw [key]
      rfl
    by_cases e3 : z = 3
    · refine r_to hr rfl (fun E lo h _ _ => ?_) (h3 e3)
      subst e3
      rw [key]
      rfl
    by_cases e4 : z = 4
    · refine r_to hr rfl (fun E lo h _ _ => ?_) (h4 e4)
      subst e4
      rw [key]
      rfl
    by_cases e5 : z = 5
    · refine r_to hr rfl (fun E lo h _ _ => ?_) (h5 e5)
      subst e5
      rw [key]
      rfl
    by_cases e6 : z = 6
    · refine r_to hr rfl (fun E lo h _ _ => ?_) (h6 e6)
      subst e6
      rw [key]
      rfl
    by_cases e7 : z = 7
    · refine r_to hr rfl (fun E lo h _ _ => ?_) (h7 e7)
      subst e7
      rw [key]
      rfl
    by_cases e8 : z = 8
    · refine r_to hr rfl (fun E lo h _ _ => ?_) (h8 e8)
      subst e8
      rw [key]
      rfl
    by_cases e9 : z = 9
    · refine r_to hr rfl (fun E lo h _ _ => ?_) (h9 e9)
      subst e9
      rw [key]
      rfl
    by_cases e10 : z = 10
    · refine r_to hr rfl (fun E lo h _ _ => ?_) (h10 e10)
      subst e10
      rw [key]
      rfl
    by_cases e11 : z = 11
    · refine r_to hr rfl (fun E lo h _ _ => ?_) (h11 e11)
      subst e11
      rw [key]
      rfl
    by_cases e12 : z = 12
    · refine r_to hr rfl (fun E lo h _ _ => ?_) (h12 e12)
      subst e12
      rw [key]
      rfl
    by_cases e13 : z = 13
    · refine r_to hr rfl (fun E lo h _ _ => ?_) (h13 e13)
      subst e13
      rw [key]
      rfl
    by_cases e14 : z = 14
    · refine r_to hr rfl (fun E lo h _ _ => ?_) (h14 e14)
      subst e14
      rw [key]
      rfl
    by_cases e15 : z = 15
    · refine r_to hr rfl (fun E lo h _ _ => ?_) (h15 e15)
      subst e15
      rw [key]
      rfl
    by_cases e16 : z = 16
    · refine r_to hr rfl (fun E lo h _ _ => ?_) (h16 e16)
      subst e16
      rw [key]
      rfl
    by_cases e17 : z = 17
    · refine r_to hr rfl (fun E lo h _ _ => ?_) (h17 e17)
      subst e17
      rw [key]
      rfl
    by_cases e18 : z = 18
    · refine r_to hr rfl (fun E lo h _ _ => ?_) (h18 e18)
      subst e18
      rw [key]
      rfl
    by_cases e19 : z = 19
    · refine r_to hr rfl (fun E lo h _ _ => ?_) (h19 e19)
      subst e19
      rw [key]
      rfl
    by_cases e20 : z = 20
    · refine r_to hr rfl (fun E lo h _ _ => ?_) (h20 e20)
      subst e20
      rw [key]
      rfl
    by_cases e21 : z = 21
    · refine r_to hr rfl (fun E lo h _ _ => ?_) (h21 e21)
      subst e21
      rw [key]
      rfl
    by_cases e22 : z = 22
    · refine r_to hr rfl (fun E lo h _ _ => ?_) (h22 e22)
      subst e22
      rw [key]
      rfl
    by_cases e23 : z = 23
    · refine r_to hr rfl (fun E lo h _ _ => ?_) (h23 e23)
      subst e23
      rw [key]
      rfl
    by_cases e24 : z = 24
    · refine r_to hr rfl (fun E lo h _ _ => ?_) (h24 e24)
      subst e24
      rw [key]
      rfl
    omega
  · refine r_to hr rfl (fun E lo h _ _ => ?_) (hd (Or.inr q2))
    rw [key, decide_eq_false (Int.not_lt.mpr q), decide_eq_false (Int.not_lt.mpr q2)]
theorem wk_sw1 {B : eB} {d y pc pc2 : Nat} {L : List (Option eV)} {st : List eV} {M : Mm} {Q : Nat → eV → Mm → Prop} {b c n9 : Nat} {z : Int} (hr : Rw y pc pc2 n9 73 1 b c) (hz : -2147483648 ≤ z ∧ z < 2147483648) (hd : z < 1 ∨ 4 ≤ z → Wp B d y 83 L st M Q) (h0 : z = 1 → Wp B d y 28 L st M Q) (h1 : z = 2 → Wp B d y 46 L st M Q) (h2 : z = 3 → Wp B d y 65 L st M Q) : Wp B d y pc L (I z :: st) M Q := by
  have hw1 : -2147483648 ≤ (1 : Int) ∧ (1 : Int) < 2147483648 := by decide
  have hw2 : -2147483648 ≤ (4 : Int) ∧ (4 : Int) < 2147483648 := by decide
  have key : ∀ (E : eE) (lo : List (Nat × eV)) (h : eH), xget eF 7 opT 73 1 b c E B (pc, lo, I z :: st, h) = (match some (decide (z < 1)) with
      | some true => eN 83 lo st h
      | some false => match some (decide (z < 4)) with
        | some false => eN 83 lo st h
        | some true => cond (l32 (cd z)) (match ([28, 46, 65] : List Nat)[cd z - 1]? with
          | some t => eN t lo st h
          | none => none) none
        | none => none
      | none => none) := by
    intro E lo h
    rw [← e_lt_I hz hw1, ← e_lt_I hz hw2, ← e_rng_I B hz]
    rfl
  rcases Int.lt_or_le z 1 with q | q
  · refine r_to hr rfl (fun E lo h _ _ => ?_) (hd (Or.inl q))
    rw [key, decide_eq_true q]
  rcases Int.lt_or_le z 4 with q2 | q2
  · by_cases e0 : z = 1
    · refine r_to hr rfl (fun E lo h _ _ => ?_) (h0 e0)
      subst e0
      rw [key]
      rfl
    by_cases e1 : z = 2
    · refine r_to hr rfl (fun E lo h _ _ => ?_) (h1 e1)
      subst e1
      rw [key]
      rfl
    by_cases e2 : z = 3
    · refine r_to hr rfl (fun E lo h _ _ => ?_) (h2 e2)
      subst e2
      rw [key]
      rfl
    omega
  · refine r_to hr rfl (fun E lo h _ _ => ?_) (hd (Or.inr q2))
    rw [key, decide_eq_false (Int.not_lt.mpr q), decide_eq_false (Int.not_lt.mpr q2)]
theorem wk_sw2 {B : eB} {d y pc pc2 : Nat} {L : List (Option eV)} {st : List eV} {M : Mm} {Q : Nat → eV → Mm → Prop} {b c n9 : Nat} {z : Int} (hr : Rw y pc pc2 n9 73 2 b c) (hz : -2147483648 ≤ z ∧ z < 2147483648) (hd : z < 0 ∨ 8 ≤ z → Wp B d y 109 L st M Q) (h0 : z = 0 → Wp B d y 48 L st M Q) (h1 : z = 1 → Wp B d y 56 L st M Q) (h2 : z = 2 → Wp B d y 64 L st M Q) (h3 : z = 3 → Wp B d y 69 L st M Q) (h4 : z = 4 → Wp B d y 77 L st M Q) (h5 : z = 5 → Wp B d y 82 L st M Q) (h6 : z = 6 → Wp B d y 87 L st M Q) (h7 : z = 7 → Wp B d y 95 L st M Q) : Wp B d y pc L (I z :: st) M Q := by
  have hw1 : -2147483648 ≤ (0 : Int) ∧ (0 : Int) < 2147483648 := by decide
  have hw2 : -2147483648 ≤ (8 : Int) ∧ (8 : Int) < 2147483648 := by decide
  have key : ∀ (E : eE) (lo : List (Nat × eV)) (h : eH), xget eF 7 opT 73 2 b c E B (pc, lo, I z :: st, h) = (match some (decide (z < 0)) with
      | some true => eN 109 lo st h
      | some false => match some (decide (z < 8)) with
        | some false => eN 109 lo st h
        | some true => cond (l32 (cd z)) (match ([48, 56, 64, 69, 77, 82, 87, 95] : List Nat)[cd z - 0]? with
          | some t => eN t lo st h
          | none => none) none
        | none => none
      | none => none) := by
    intro E lo h
    rw [← e_lt_I hz hw1, ← e_lt_I hz hw2, ← e_rng_I B hz]
    rfl
  rcases Int.lt_or_le z 0 with q | q
  · refine r_to hr rfl (fun E lo h _ _ => ?_) (hd (Or.inl q))
    rw [key, decide_eq_true q]
  rcases Int.lt_or_le z 8 with q2 | q2
  · by_cases e0 : z = 0
    · refine r_to hr rfl (fun E lo h _ _ => ?_) (h0 e0)
      subst e0
      rw [key]
      rfl
    by_cases e1 : z = 1
    · refine r_to hr rfl (fun E lo h _ _ => ?_) (h1 e1)
      subst e1
      rw [key]
      rfl
    by_cases e2 : z = 2
    · refine r_to hr rfl (fun E lo h _ _ => ?_) (h2 e2)
      subst e2
      rw [key]
      rfl
    by_cases e3 : z = 3
    · refine r_to hr rfl (fun E lo h _ _ => ?_) (h3 e3)
      subst e3
      rw [key]
      rfl
    by_cases e4 : z = 4
    · refine r_to hr rfl (fun E lo h _ _ => ?_) (h4 e4)
      subst e4
      rw [key]
      rfl
    by_cases e5 : z = 5
    · refine r_to hr rfl (fun E lo h _ _ => ?_) (h5 e5)
      subst e5
      rw [key]
      rfl
    by_cases e6 : z = 6
    · refine r_to hr rfl (fun E lo h _ _ => ?_) (h6 e6)
      subst e6
      rw [key]
      rfl
    by_cases e7 : z = 7
    · refine r_to hr rfl (fun E lo h _ _ => ?_) (h7 e7)
      subst e7
      rw [key]
      rfl
    omega
  · refine r_to hr rfl (fun E lo h _ _ => ?_) (hd (Or.inr q2))
    rw [key, decide_eq_false (Int.not_lt.mpr q), decide_eq_false (Int.not_lt.mpr q2)]
theorem wk_sw3 {B : eB} {d y pc pc2 : Nat} {L : List (Option eV)} {st : List eV} {M : Mm} {Q : Nat → eV → Mm → Prop} {b c n9 : Nat} {z : Int} (hr : Rw y pc pc2 n9 73 3 b c) (hz : -2147483648 ≤ z ∧ z < 2147483648) (hd : z < 1 ∨ 9 ≤ z → Wp B d y 214 L st M Q) (h0 : z = 1 → Wp B d y 48 L st M Q) (h1 : z = 2 → Wp B d y 68 L st M Q) (h2 : z = 3 → Wp B d y 94 L st M Q) (h3 : z = 4 → Wp B d y 114 L st M Q) (h4 : z = 5 → Wp B d y 134 L st M Q) (h5 : z = 6 → Wp B d y 154 L st M Q) (h6 : z = 7 → Wp B d y 174 L st M Q) (h7 : z = 8 → Wp B d y 194 L st M Q) : Wp B d y pc L (I z :: st) M Q := by
  have hw1 : -2147483648 ≤ (1 : Int) ∧ (1 : Int) < 2147483648 := by decide
  have hw2 : -2147483648 ≤ (9 : Int) ∧ (9 : Int) < 2147483648 := by decide
  have key : ∀ (E : eE) (lo : List (Nat × eV)) (h : eH), xget eF 7 opT 73 3 b c E B (pc, lo, I z :: st, h) = (match some (decide (z < 1)) with
      | some true => eN 214 lo st h
      | some false => match some (decide (z < 9)) with
        | some false => eN 214 lo st h
        | some true => cond (l32 (cd z)) (match ([48, 68, 94, 114, 134, 154, 174, 194] : List Nat)[cd z - 1]? with
          | some t => eN t lo st h
          | none => none) none
        | none => none
      | none => none) := by
    intro E lo h
    rw [← e_lt_I hz hw1, ← e_lt_I hz hw2, ← e_rng_I B hz]
    rfl
  rcases Int.lt_or_le z 1 with q | q
  · refine r_to hr rfl (fun E lo h _ _ => ?_) (hd (Or.inl q))
    rw [key, decide_eq_true q]
  rcases Int.lt_or_le z 9 with q2 | q2
  · by_cases e0 : z = 1
    · refine r_to hr rfl (fun E lo h _ _ => ?_) (h0 e0)
      subst e0
      rw [key]
      rfl
    by_cases e1 : z = 2
    · refine r_to hr rfl (fun E lo h _ _ => ?_) (h1 e1)
      subst e1
      rw [key]
      rfl
    by_cases e2 : z = 3
    · refine r_to hr rfl (fun E lo h _ _ => ?_) (h2 e2)
      subst e2
      rw [key]
      rfl
    by_cases e3 : z = 4
    · refine r_to hr rfl (fun E lo h _ _ => ?_) (h3 e3)
      subst e3
      rw [key]
      rfl
    by_cases e4 : z = 5
    · refine r_to hr rfl (fun E lo h _ _ => ?_) (h4 e4)
      subst e4
      rw [key]
      rfl
    by_cases e5 : z = 6
    · refine r_to hr rfl (fun E lo h _ _ => ?_) (h5 e5)
      subst e5
      rw [key]
      rfl
    by_cases e6 : z = 7
    · refine r_to hr rfl (fun E lo h _ _ => ?_) (h6 e6)
      subst e6
      rw [key]
      rfl
    by_cases e7 : z = 8
    · refine r_to hr rfl (fun E lo h _ _ => ?_) (h7 e7)
      subst e7
      rw [key]
      rfl
    omega
  · refine r_to hr rfl (fun E lo h _ _ => ?_) (hd (Or.inr q2))
    rw [key, decide_eq_false (Int.not_lt.mpr q), decide_eq_false (Int.not_lt.mpr q2)]
theorem wk_sw4 {B : eB} {d y pc pc2 : Nat} {L : List (Option eV)} {st : List eV} {M : Mm} {Q : Nat → eV → Mm → Prop} {b c n9 : Nat} {z : Int} (hr : Rw y pc pc2 n9 73 4 b c) (hz : -2147483648 ≤ z ∧ z < 2147483648) (hd : z < 6 ∨ 11 ≤ z → Wp B d y 117 L st M Q) (h0 : z = 6 → Wp B d y 68 L st M Q) (h1 : z = 7 → Wp B d y 75 L st M Q) (h2 : z = 8 → Wp B d y 88 L st M Q) (h3 : z = 9 → Wp B d y 102 L st M Q) (h4 : z = 10 → Wp B d y 109 L st M Q) : Wp B d y pc L (I z :: st) M Q := by
  have hw1 : -2147483648 ≤ (6 : Int) ∧ (6 : Int) < 2147483648 := by decide
  have hw2 : -2147483648 ≤ (11 : Int) ∧ (11 : Int) < 2147483648 := by decide
  have key : ∀ (E : eE) (lo : List (Nat × eV)) (h : eH), xget eF 7 opT 73 4 b c E B (pc, lo, I z :: st, h) = (match some (decide (z < 6)) with
      | some true => eN 117 lo st h
      | some false => match some (decide (z < 11)) with
        | some false => eN 117 lo st h
        | some true => cond (l32 (cd z)) (match ([68, 75, 88, 102, 109] : List Nat)[cd z - 6]? with
          | some t => eN t lo st h
          | none => none) none
        | none => none
      | none => none) := by
    intro E lo h
    rw [← e_lt_I hz hw1, ← e_lt_I hz hw2, ← e_rng_I B hz]
    rfl
  rcases Int.lt_or_le z 6 with q | q
  · refine r_to hr rfl (fun E lo h _ _ => ?_) (hd (Or.inl q))
    rw [key, decide_eq_true q]
  rcases Int.lt_or_le z 11 with q2 | q2
  · by_cases e0 : z = 6
    · refine r_to hr rfl (fun E lo h _ _ => ?_) (h0 e0)
      subst e0
      rw [key]
      rfl
    by_cases e1 : z = 7
    · refine r_to hr rfl (fun E lo h _ _ => ?_) (h1 e1)
      subst e1
      rw [key]
      rfl
    by_cases e2 : z = 8
    · refine r_to hr rfl (fun E lo h _ _ => ?_) (h2 e2)
      subst e2
      rw [key]
      rfl
    by_cases e3 : z = 9
    · refine r_to hr rfl (fun E lo h _ _ => ?_) (h3 e3)
      subst e3
      rw [key]
      rfl
    by_cases e4 : z = 10
    · refine r_to hr rfl (fun E lo h _ _ => ?_) (h4 e4)
      subst e4
      rw [key]
      rfl
    omega
  · refine r_to hr rfl (fun E lo h _ _ => ?_) (hd (Or.inr q2))
    rw [key, decide_eq_false (Int.not_lt.mpr q), decide_eq_false (Int.not_lt.mpr q2)]
theorem wk_sw5 {B : eB} {d y pc pc2 : Nat} {L : List (Option eV)} {st : List eV} {M : Mm} {Q : Nat → eV → Mm → Prop} {b c n9 : Nat} {z : Int} (hr : Rw y pc pc2 n9 73 5 b c) (hz : -2147483648 ≤ z ∧ z < 2147483648) (hd : z < 0 ∨ 7 ≤ z → Wp B d y 107 L st M Q) (h0 : z = 0 → Wp B d y 72 L st M Q) (h1 : z = 1 → Wp B d y 77 L st M Q) (h2 : z = 2 → Wp B d y 82 L st M Q) (h3 : z = 3 → Wp B d y 87 L st M Q) (h4 : z = 4 → Wp B d y 92 L st M Q) (h5 : z = 5 → Wp B d y 97 L st M Q) (h6 : z = 6 → Wp B d y 102 L st M Q) : Wp B d y pc L (I z :: st) M Q := by
  have hw1 : -2147483648 ≤ (0 : Int) ∧ (0 : Int) < 2147483648 := by decide
  have hw2 : -2147483648 ≤ (7 : Int) ∧ (7 : Int) < 2147483648 := by decide
  have key : ∀ (E : eE) (lo : List (Nat × eV)) (h : eH), xget eF 7 opT 73 5 b c E B (pc, lo, I z :: st, h) = (match some (decide (z < 0)) with
      | some true => eN 107 lo st h
      | some false => match some (decide (z < 7)) with
        | some false => eN 107 lo st h
        | some true => cond (l32 (cd z)) (match ([72, 77, 82, 87, 92, 97, 102] : List Nat)[cd z - 0]? with
          | some t => eN t lo st h
          | none => none) none
        | none => none
      | none => none) := by
    intro E lo h
    rw [← e_lt_I hz hw1, ← e_lt_I hz hw2, ← e_rng_I B hz]
    rfl
  rcases Int.lt_or_le z 0 with q | q
  · refine r_to hr rfl (fun E lo h _ _ => ?_) (hd (Or.inl q))
    rw [key, decide_eq_true q]
  rcases Int.lt_or_le z 7 with q2 | q2
  · by_cases e0 : z = 0
    · refine r_to hr rfl (fun E lo h _ _ => ?_) (h0 e0)
      subst e0
      rw [key]
      rfl
    by_cases e1 : z = 1
    · refine r_to hr rfl (fun E lo h _ _ => ?_) (h1 e1)
      subst e1
      rw [key]
      rfl
    by_cases e2 : z = 2
    · refine r_to hr rfl (fun E lo h _ _ => ?_) (h2 e2)
      subst e2
      rw [key]
      rfl
    by_cases e3 : z = 3
    · refine r_to hr rfl (fun E lo h _ _ => ?_) (h3 e3)
      subst e3
      rw [key]
      rfl
    by_cases e4 : z = 4
    · refine r_to hr rfl (fun E lo h _ _ => ?_) (h4 e4)
      subst e4
      rw [key]
      rfl
    by_cases e5 : z = 5
    · refine r_to hr rfl (fun E lo h _ _ => ?_) (h5 e5)
      subst e5
      rw [key]
      rfl
    by_cases e6 : z = 6
    · refine r_to hr rfl (fun E lo h _ _ => ?_) (h6 e6)
      subst e6
      rw [key]
      rfl
    omega
  · refine r_to hr rfl (fun E lo h _ _ => ?_) (hd (Or.inr q2))
    rw [key, decide_eq_false (Int.not_lt.mpr q), decide_eq_false (Int.not_lt.mpr q2)]
theorem wk_sw6 {B : eB} {d y pc pc2 : Nat} {L : List (Option eV)} {st : List eV} {M : Mm} {Q : Nat → eV → Mm → Prop} {b c n9 : Nat} {z : Int} (hr : Rw y pc pc2 n9 73 6 b c) (hz : -2147483648 ≤ z ∧ z < 2147483648) (hd : z < 0 ∨ 21 ≤ z → Wp B d y 393 L st M Q) (h0 : z = 0 → Wp B d y 100 L st M Q) (h1 : z = 1 → Wp B d y 116 L st M Q) (h2 : z = 2 → Wp B d y 130 L st M Q) (h3 : z = 3 → Wp B d y 146 L st M Q) (h4 : z = 4 → Wp B d y 161 L st M Q) (h5 : z = 5 → Wp B d y 175 L st M Q) (h6 : z = 6 → Wp B d y 191 L st M Q) (h7 : z = 7 → Wp B d y 204 L st M Q) (h8 : z = 8 → Wp B d y 219 L st M Q) (h9 : z = 9 → Wp B d y 232 L st M Q) (h10 : z = 10 → Wp B d y 246 L st M Q) (h11 : z = 11 → Wp B d y 261 L st M Q) (h12 : z = 12 → Wp B d y 275 L st M Q) (h13 : z = 13 → Wp B d y 288 L st M Q) (h14 : z = 14 → Wp B d y 300 L st M Q) (h15 : z = 15 → Wp B d y 313 L st M Q) (h16 : z = 16 → Wp B d y 325 L st M Q) (h17 : z = 17 → Wp B d y 337 L st M Q) (h18 : z = 18 → Wp B d y 351 L st M Q) (h19 : z = 19 → Wp B d y 365 L st M Q) (h20 : z = 20 → Wp B d y 379 L st M Q) : Wp B d y pc L (I z :: st) M Q := by
  have hw1 : -2147483648 ≤ (0 : Int) ∧ (0 : Int) < 2147483648 := by decide
  have hw2 : -2147483648 ≤ (21 : Int) ∧ (21 : Int) < 2147483648 := by decide
  have key : ∀ (E : eE) (lo : List (Nat × eV)) (h : eH), xget eF 7 opT 73 6 b c E B (pc, lo, I z :: st, h) = (match some (decide (z < 0)) with
      | some true => eN 393 lo st h
      | some false => match some (decide (z < 21)) with
        | some false => eN 393 lo st h
        | some true => cond (l32 (cd z)) (match ([100, 116, 130, 146, 161, 175, 191, 204, 219, 232, 246, 261, 275, 288, 300, 313, 325, 337, 351, 365, 379] : List Nat)[cd z - 0]? with
          | some t => eN t lo st h
          | none => none) none
        | none => none
      | none => none) := by
    intro E lo h
    rw [← e_lt_I hz hw1, ← e_lt_I hz hw2, ← e_rng_I B hz]
    rfl
  rcases Int.lt_or_le z 0 with q | q
  · refine r_to hr rfl (fun E lo h _ _ => ?_) (hd (Or.inl q))
    rw [key, decide_eq_true q]
  rcases Int.lt_or_le z 21 with q2 | q2
  · by_cases e0 : z = 0
    · refine r_to hr rfl (fun E lo h _ _ => ?_) (h0 e0)
      subst e0
      rw [key]
      rfl
    by_cases e1 : z = 1
    · refine r_to hr rfl (fun E lo h _ _ => ?_) (h1 e1)
      subst e1
      rw [key]
      rfl
    by_cases e2 : z = 2
    · refine r_to hr rfl (fun E lo h _ _ => ?_) (h2 e2)
      subst e2
      rw [key]
      rfl
    by_cases e3 : z = 3
    · refine r_to hr rfl (fun E lo h _ _ => ?_) (h3 e3)
      subst e3
      rw [key]
      rfl
    by_cases e4 : z = 4
    · refine r_to hr rfl (fun E lo h _ _ => ?_) (h4 e4)
      subst e4
      rw [key]
      rfl
    by_cases e5 : z = 5
    · refine r_to hr rfl (fun E lo h _ _ => ?_) (h5 e5)
      subst e5
      rw [key]
      rfl
    by_cases e6 : z = 6
    · refine r_to hr rfl (fun E lo h _ _ => ?_) (h6 e6)
      subst e6
      rw [key]
      rfl
    by_cases e7 : z = 7
    · refine r_to hr rfl (fun E lo h _ _ => ?_) (h7 e7)
      subst e7
      rw [key]
      rfl
    by_cases e8 : z = 8
    · refine r_to hr rfl (fun E lo h _ _ => ?_) (h8 e8)
      subst e8
      rw [key]
      rfl
    by_cases e9 : z = 9
    · refine r_to hr rfl (fun E lo h _ _ => ?_) (h9 e9)
      subst e9
      rw [key]
      rfl
    by_cases e10 : z = 10
    · refine r_to hr rfl (fun E lo h _ _ => ?_) (h10 e10)
      subst e10
      rw [key]
      rfl
    by_cases e11 : z = 11
    · refine r_to hr rfl (fun E lo h _ _ => ?_) (h11 e11)
      subst e11
      rw [key]
      rfl
    by_cases e12 : z = 12
    · refine r_to hr rfl (fun E lo h _ _ => ?_) (h12 e12)
      subst e12
      rw [key]
      rfl
    by_cases e13 : z = 13
    · refine r_to hr rfl (fun E lo h _ _ => ?_) (h13 e13)
      subst e13
      rw [key]
      rfl
    by_cases e14 : z = 14
    · refine r_to hr rfl (fun E lo h _ _ => ?_) (h14 e14)
      subst e14
      rw [key]
      rfl
    by_cases e15 : z = 15
    · refine r_to hr rfl (fun E lo h _ _ => ?_) (h15 e15)
      subst e15
      rw [key]
      rfl
    by_cases e16 : z = 16
    · refine r_to hr rfl (fun E lo h _ _ => ?_) (h16 e16)
      subst e16
      rw [key]
      rfl
    by_cases e17 : z = 17
    · refine r_to hr rfl (fun E lo h _ _ => ?_) (h17 e17)
      subst e17
      rw [key]
      rfl
    by_cases e18 : z = 18
    · refine r_to hr rfl (fun E lo h _ _ => ?_) (h18 e18)
      subst e18
      rw [key]
      rfl
    by_cases e19 : z = 19
    · refine r_to hr rfl (fun E lo h _ _ => ?_) (h19 e19)
      subst e19
      rw [key]
      rfl
    by_cases e20 : z = 20
    · refine r_to hr rfl (fun E lo h _ _ => ?_) (h20 e20)
      subst e20
      rw [key]
      rfl
    omega
  · refine r_to hr rfl (fun E lo h _ _ => ?_) (hd (Or.inr q2))
    rw [key, decide_eq_false (Int.not_lt.mpr q), decide_eq_false (Int.not_lt.mpr q2)]
theorem wk_sw7 {B : eB} {d y pc pc2 : Nat} {L : List (Option eV)} {st : List eV} {M : Mm} {Q : Nat → eV → Mm → Prop} {b c n9 : Nat} {z : Int} (hr : Rw y pc pc2 n9 73 7 b c) (hz : -2147483648 ≤ z ∧ z < 2147483648) (hd : z < 0 ∨ 4 ≤ z → Wp B d y 101 L st M Q) (h0 : z = 0 → Wp B d y 36 L st M Q) (h1 : z = 1 → Wp B d y 38 L st M Q) (h2 : z = 2 → Wp B d y 40 L st M Q) (h3 : z = 3 → Wp B d y 87 L st M Q) : Wp B d y pc L (I z :: st) M Q := by
  have hw1 : -2147483648 ≤ (0 : Int) ∧ (0 : Int) < 2147483648 := by decide
  have hw2 : -2147483648 ≤ (4 : Int) ∧ (4 : Int) < 2147483648 := by decide
  have key : ∀ (E : eE) (lo : List (Nat × eV)) (h : eH), xget eF 7 opT 73 7 b c E B (pc, lo, I z :: st, h) = (match some (decide (z < 0)) with
      | some true => eN 101 lo st h
      | some false => match some (decide (z < 4)) with
        | some false => eN 101 lo st h
        | some true => cond (l32 (cd z)) (match ([36, 38, 40, 87] : List Nat)[cd z - 0]? with
          | some t => eN t lo st h
          | none => none) none
        | none => none
      | none => none) := by
    intro E lo h
    rw [← e_lt_I hz hw1, ← e_lt_I hz hw2, ← e_rng_I B hz]
    rfl
  rcases Int.lt_or_le z 0 with q | q
  · refine r_to hr rfl (fun E lo h _ _ => ?_) (hd (Or.inl q))
    rw [key, decide_eq_true q]
  rcases Int.lt_or_le z 4 with q2 | q2
  · by_cases e0 : z = 0
    · refine r_to hr rfl (fun E lo h _ _ => ?_) (h0 e0)
      subst e0
      rw [key]
      rfl
    by_cases e1 : z = 1
    · refine r_to hr rfl (fun E lo h _ _ => ?_) (h1 e1)
      subst e1
      rw [key]
      rfl
    by_cases e2 : z = 2
    · refine r_to hr rfl (fun E lo h _ _ => ?_) (h2 e2)
      subst e2
      rw [key]
      rfl
    by_cases e3 : z = 3
    · refine r_to hr rfl (fun E lo h _ _ => ?_) (h3 e3)
      subst e3
      rw [key]
      rfl
    omega
  · refine r_to hr rfl (fun E lo h _ _ => ?_) (hd (Or.inr q2))
    rw [key, decide_eq_false (Int.not_lt.mpr q), decide_eq_false (Int.not_lt.mpr q2)]
theorem wk_sw8 {B : eB} {d y pc pc2 : Nat} {L : List (Option eV)} {st : List eV} {M : Mm} {Q : Nat → eV → Mm → Prop} {b c n9 : Nat} {z : Int} (hr : Rw y pc pc2 n9 73 8 b c) (hz : -2147483648 ≤ z ∧ z < 2147483648) (hd : z < 1 ∨ 4 ≤ z → Wp B d y 65 L st M Q) (h0 : z = 1 → Wp B d y 28 L st M Q) (h1 : z = 2 → Wp B d y 40 L st M Q) (h2 : z = 3 → Wp B d y 53 L st M Q) : Wp B d y pc L (I z :: st) M Q := by
  have hw1 : -2147483648 ≤ (1 : Int) ∧ (1 : Int) < 2147483648 := by decide
  have hw2 : -2147483648 ≤ (4 : Int) ∧ (4 : Int) < 2147483648 := by decide
  have key : ∀ (E : eE) (lo : List (Nat × eV)) (h : eH), xget eF 7 opT 73 8 b c E B (pc, lo, I z :: st, h) = (match some (decide (z < 1)) with
      | some true => eN 65 lo st h
      | some false => match some (decide (z < 4)) with
        | some false => eN 65 lo st h
        | some true => cond (l32 (cd z)) (match ([28, 40, 53] : List Nat)[cd z - 1]? with
          | some t => eN t lo st h
          | none => none) none
        | none => none
      | none => none) := by
    intro E lo h
    rw [← e_lt_I hz hw1, ← e_lt_I hz hw2, ← e_rng_I B hz]
    rfl
  rcases Int.lt_or_le z 1 with q | q
  · refine r_to hr rfl (fun E lo h _ _ => ?_) (hd (Or.inl q))
    rw [key, decide_eq_true q]
  rcases Int.lt_or_le z 4 with q2 | q2
  · by_cases e0 : z = 1
    · refine r_to hr rfl (fun E lo h _ _ => ?_) (h0 e0)
      subst e0
      rw [key]
      rfl
    by_cases e1 : z = 2
    · refine r_to hr rfl (fun E lo h _ _ => ?_) (h1 e1)
      subst e1
      rw [key]
      rfl
    by_cases e2 : z = 3
    · refine r_to hr rfl (fun E lo h _ _ => ?_) (h2 e2)
      subst e2
      rw [key]
      rfl
    omega
  · refine r_to hr rfl (fun E lo h _ _ => ?_) (hd (Or.inr q2))
    rw [key, decide_eq_false (Int.not_lt.mpr q), decide_eq_false (Int.not_lt.mpr q2)]
theorem wk_sw9 {B : eB} {d y pc pc2 : Nat} {L : List (Option eV)} {st : List eV} {M : Mm} {Q : Nat → eV → Mm → Prop} {b c n9 : Nat} {z : Int} (hr : Rw y pc pc2 n9 73 9 b c) (hz : -2147483648 ≤ z ∧ z < 2147483648) (hd : z < 0 ∨ 4 ≤ z → Wp B d y 94 L st M Q) (h0 : z = 0 → Wp B d y 36 L st M Q) (h1 : z = 1 → Wp B d y 94 L st M Q) (h2 : z = 2 → Wp B d y 38 L st M Q) (h3 : z = 3 → Wp B d y 72 L st M Q) : Wp B d y pc L (I z :: st) M Q := by
  have hw1 : -2147483648 ≤ (0 : Int) ∧ (0 : Int) < 2147483648 := by decide
  have hw2 : -2147483648 ≤ (4 : Int) ∧ (4 : Int) < 2147483648 := by decide
  have key : ∀ (E : eE) (lo : List (Nat × eV)) (h : eH), xget eF 7 opT 73 9 b c E B (pc, lo, I z :: st, h) = (match some (decide (z < 0)) with
      | some true => eN 94 lo st h
      | some false => match some (decide (z < 4)) with
        | some false => eN 94 lo st h
        | some true => cond (l32 (cd z)) (match ([36, 94, 38, 72] : List Nat)[cd z - 0]? with
          | some t => eN t lo st h
          | none => none) none
        | none => none
      | none => none) := by
    intro E lo h
    rw [← e_lt_I hz hw1, ← e_lt_I hz hw2, ← e_rng_I B hz]
    rfl
  rcases Int.lt_or_le z 0 with q | q
  · refine r_to hr rfl (fun E lo h _ _ => ?_) (hd (Or.inl q))
    rw [key, decide_eq_true q]
  rcases Int.lt_or_le z 4 with q2 | q2
  · by_cases e0 : z = 0
    · refine r_to hr rfl (fun E lo h _ _ => ?_) (h0 e0)
      subst e0
      rw [key]
      rfl
    by_cases e1 : z = 1
    · refine r_to hr rfl (fun E lo h _ _ => ?_) (h1 e1)
      subst e1
      rw [key]
      rfl
    by_cases e2 : z = 2
    · refine r_to hr rfl (fun E lo h _ _ => ?_) (h2 e2)
      subst e2
      rw [key]
      rfl
    by_cases e3 : z = 3
    · refine r_to hr rfl (fun E lo h _ _ => ?_) (h3 e3)
      subst e3
      rw [key]
      rfl
    omega
  · refine r_to hr rfl (fun E lo h _ _ => ?_) (hd (Or.inr q2))
    rw [key, decide_eq_false (Int.not_lt.mpr q), decide_eq_false (Int.not_lt.mpr q2)]
/-- what may come of a call -/
def Cq (B : eB) (d y pc : Nat) (L : List (Option eV)) (st : List eV) (Q Qa : Nat → eV → Mm → Prop) : Prop := ∀ (k : Nat) (v : eV) (M2 : Mm), Qa k v M2 → (k = 0 → Wp B d y pc L st M2 Q) ∧ (k = 1 → Wp B d y pc L (v :: st) M2 Q) ∧ (2 ≤ k → Q k v M2)
theorem w_back {B : eB} {d y pc pc2 : Nat} {L : List (Option eV)} {st : List eV} {M : Mm} {Q : Nat → eV → Mm → Prop} {as : List eV} {st0 : List eV} {a b c op : Nat} {Qa : Nat → eV → Mm → Prop} (hr : Rw y pc pc2 3 op a b c) (hop : Nat.ble op 127 = true) (hs : ∀ (lo : List (Nat × eV)) (h : eH), V h M → Ag lo L → xget eF 7 opT op a b c (EE B d) B (pc, lo, st, h) = e_back pc lo st0 (EE B d a as h)) (hct : Ct B d a as M Qa) (hq : Cq B d y pc2 L st0 Q Qa) : Wp B d y pc L st M Q := by
  intro h lo hV hA
  obtain ⟨o, M2, e1, e2, e3, e4, e5⟩ := hct h hV
  obtain ⟨h1, hpc, k9, h3⟩ := hr
  subst hpc
  have hst := e_step_row (B := B) (E := EE B d) (lo := lo) (st := st) (h := h) h3 (by rw [h1, hop]; rfl)
  rw [hs lo h hV hA, e1] at hst
  obtain ⟨k, v, h2⟩ := o
  obtain ⟨q0, q1, q2⟩ := hq k v M2 e5
  match k, hst, q0, q1, q2, e5 with
  | 0, hst, q0, q1, q2, e5 =>
    obtain ⟨n, o, M3, a1, a2, a3⟩ := q0 rfl h2 lo e4 hA
    refine ⟨n + 1, o, M3, ?_, a2, a3⟩
    rw [e_run_s, hst]
    show cond (e_mono h h2) _ _ = _
    rw [e_mono_of e2 e3]
    exact a1
  | 1, hst, q0, q1, q2, e5 =>
    obtain ⟨n, o, M3, a1, a2, a3⟩ := q1 rfl h2 lo e4 hA
    refine ⟨n + 1, o, M3, ?_, a2, a3⟩
    rw [e_run_s, hst]
    show cond (e_mono h h2) _ _ = _
    rw [e_mono_of e2 e3]
    exact a1
  | k + 2, hst, q0, q1, q2, e5 =>
    refine ⟨1, (k + 2, v, h2), M2, ?_, e4, q2 (by omega)⟩
    rw [e_run_s, hst]
    show cond (e_mono h h2) _ _ = _
    rw [e_mono_of e2 e3]
    rfl
def Kc (o : Int) (a : Nat) : Prop := 0 ≤ o ∧ o.toNat < 770 ∧ kd o.toNat = e_mc a
noncomputable def kcb (o a : Nat) : Bool := Nat.ble (o + 1) 770 && Nat.beq (kd o) (e_mc a)
theorem kc_of {o : Int} {a : Nat} (h0 : 0 ≤ o) (h : kcb o.toNat a = true) : Kc o a := by
  unfold kcb at h
  simp only [Bool.and_eq_true] at h
  exact ⟨h0, Nat.le_of_ble_eq_true h.1, Nat.eq_of_beq_eq_true h.2⟩
theorem kc_b {o : Int} {a : Nat} {h : eH} {M : Mm} (hk : Kc o a) (hV : V h M) : (Nat.ble (o.toNat + 1) (e_sz h) && Nat.beq (e_get h o.toNat).1 (e_mc a)) = true :=
  b_and (Nat.ble_eq_true_of_le (by rw [hV.1]; exact hk.2.1)) (by rw [(hV.2.2.2.2 _ hk.2.1).1, hk.2.2]; exact Nat.beq_refl _)
theorem wk_cv1 {B : eB} {d y pc pc2 : Nat} {L : List (Option eV)} {st : List eV} {M : Mm} {Q : Nat → eV → Mm → Prop} {a c : Nat} {o : Int} {Qa : Nat → eV → Mm → Prop} (hr : Rw y pc pc2 3 100 a 1 c) (hk : Kc o a) (hc : Nat.ble (e_cat st) 8 = true) (hct : Ct B d a [R o] M Qa) (hq : Cq B d y pc2 L st Q Qa) : Wp B d y pc L (R o :: st) M Q :=
  w_back hr rfl (fun lo h hV _ => by
    show cond (Nat.ble 1 (st.length + 1) && Nat.ble (e_cat st) 8) (cond (Nat.ble (o.toNat + 1) (e_sz h) && Nat.beq (e_get h o.toNat).1 (e_mc a)) (e_back pc lo st (EE B d a [R o] h)) none) none = _
    rw [b_and (Nat.ble_eq_true_of_le (Nat.le_add_left 1 _)) hc, kc_b hk hV]
    rfl) hct hq
theorem wk_cv2 {B : eB} {d y pc pc2 : Nat} {L : List (Option eV)} {st : List eV} {M : Mm} {Q : Nat → eV → Mm → Prop} {a c : Nat} {o : Int} {v1 : eV} {Qa : Nat → eV → Mm → Prop} (hr : Rw y pc pc2 3 100 a 2 c) (hk : Kc o a) (hc : Nat.ble (e_cat st) 8 = true) (hct : Ct B d a [R o, v1] M Qa) (hq : Cq B d y pc2 L st Q Qa) : Wp B d y pc L (v1 :: R o :: st) M Q :=
  w_back hr rfl (fun lo h hV _ => by
    show cond (Nat.ble 2 (st.length + 2) && Nat.ble (e_cat st) 8) (cond (Nat.ble (o.toNat + 1) (e_sz h) && Nat.beq (e_get h o.toNat).1 (e_mc a)) (e_back pc lo st (EE B d a [R o, v1] h)) none) none = _
    rw [b_and (Nat.ble_eq_true_of_le (Nat.le_add_left 2 _)) hc, kc_b hk hV]
    rfl) hct hq
theorem wk_cv3 {B : eB} {d y pc pc2 : Nat} {L : List (Option eV)} {st : List eV} {M : Mm} {Q : Nat → eV → Mm → Prop} {a c : Nat} {o : Int} {v1 v2 : eV} {Qa : Nat → eV → Mm → Prop} (hr : Rw y pc pc2 3 100 a 3 c) (hk : Kc o a) (hc : Nat.ble (e_cat st) 8 = true) (hct : Ct B d a [R o, v1, v2] M Qa) (hq : Cq B d y pc2 L st Q Qa) : Wp B d y pc L (v2 :: v1 :: R o :: st) M Q :=
  w_back hr rfl (fun lo h hV _ => by
    show cond (Nat.ble 3 (st.length + 3) && Nat.ble (e_cat st) 8) (cond (Nat.ble (o.toNat + 1) (e_sz h) && Nat.beq (e_get h o.toNat).1 (e_mc a)) (e_back pc lo st (EE B d a [R o, v1, v2] h)) none) none = _
    rw [b_and (Nat.ble_eq_true_of_le (Nat.le_add_left 3 _)) hc, kc_b hk hV]
    rfl) hct hq
theorem wk_cv4 {B : eB} {d y pc pc2 : Nat} {L : List (Option eV)} {st : List eV} {M : Mm} {Q : Nat → eV → Mm → Prop} {a c : Nat} {o : Int} {v1 v2 v3 : eV} {Qa : Nat → eV → Mm → Prop} (hr : Rw y pc pc2 3 100 a 4 c) (hk : Kc o a) (hc : Nat.ble (e_cat st) 8 = true) (hct : Ct B d a [R o, v1, v2, v3] M Qa) (hq : Cq B d y pc2 L st Q Qa) : Wp B d y pc L (v3 :: v2 :: v1 :: R o :: st) M Q :=
  w_back hr rfl (fun lo h hV _ => by
    show cond (Nat.ble 4 (st.length + 4) && Nat.ble (e_cat st) 8) (cond (Nat.ble (o.toNat + 1) (e_sz h) && Nat.beq (e_get h o.toNat).1 (e_mc a)) (e_back pc lo st (EE B d a [R o, v1, v2, v3] h)) none) none = _
    rw [b_and (Nat.ble_eq_true_of_le (Nat.le_add_left 4 _)) hc, kc_b hk hV]
    rfl) hct hq
theorem wk_cv5 {B : eB} {d y pc pc2 : Nat} {L : List (Option eV)} {st : List eV} {M : Mm} {Q : Nat → eV → Mm → Prop} {a c : Nat} {o : Int} {v1 v2 v3 v4 : eV} {Qa : Nat → eV → Mm → Prop} (hr : Rw y pc pc2 3 100 a 5 c) (hk : Kc o a) (hc : Nat.ble (e_cat st) 8 = true) (hct : Ct B d a [R o, v1, v2, v3, v4] M Qa) (hq : Cq B d y pc2 L st Q Qa) : Wp B d y pc L (v4 :: v3 :: v2 :: v1 :: R o :: st) M Q :=
  w_back hr rfl (fun lo h hV _ => by
    show cond (Nat.ble 5 (st.length + 5) && Nat.ble (e_cat st) 8) (cond (Nat.ble (o.toNat + 1) (e_sz h) && Nat.beq (e_get h o.toNat).1 (e_mc a)) (e_back pc lo st (EE B d a [R o, v1, v2, v3, v4] h)) none) none = _
    rw [b_and (Nat.ble_eq_true_of_le (Nat.le_add_left 5 _)) hc, kc_b hk hV]
    rfl) hct hq
theorem wk_cv6 {B : eB} {d y pc pc2 : Nat} {L : List (Option eV)} {st : List eV} {M : Mm} {Q : Nat → eV → Mm → Prop} {a c : Nat} {o : Int} {v1 v2 v3 v4 v5 : eV} {Qa : Nat → eV → Mm → Prop} (hr : Rw y pc pc2 3 100 a 6 c) (hk : Kc o a) (hc : Nat.ble (e_cat st) 8 = true) (hct : Ct B d a [R o, v1, v2, v3, v4, v5] M Qa) (hq : Cq B d y pc2 L st Q Qa) : Wp B d y pc L (v5 :: v4 :: v3 :: v2 :: v1 :: R o :: st) M Q :=
  w_back hr rfl (fun lo h hV _ => by
    show cond (Nat.ble 6 (st.length + 6) && Nat.ble (e_cat st) 8) (cond (Nat.ble (o.toNat + 1) (e_sz h) && Nat.beq (e_get h o.toNat).1 (e_mc a)) (e_back pc lo st (EE B d a [R o, v1, v2, v3, v4, v5] h)) none) none = _
    rw [b_and (Nat.ble_eq_true_of_le (Nat.le_add_left 6 _)) hc, kc_b hk hV]
    rfl) hct hq
theorem wk_cv7 {B : eB} {d y pc pc2 : Nat} {L : List (Option eV)} {st : List eV} {M : Mm} {Q : Nat → eV → Mm → Prop} {a c : Nat} {o : Int} {v1 v2 v3 v4 v5 v6 : eV} {Qa : Nat → eV → Mm → Prop} (hr : Rw y pc pc2 3 100 a 7 c) (hk : Kc o a) (hc : Nat.ble (e_cat st) 8 = true) (hct : Ct B d a [R o, v1, v2, v3, v4, v5, v6] M Qa) (hq : Cq B d y pc2 L st Q Qa) : Wp B d y pc L (v6 :: v5 :: v4 :: v3 :: v2 :: v1 :: R o :: st) M Q :=
  w_back hr rfl (fun lo h hV _ => by
    show cond (Nat.ble 7 (st.length + 7) && Nat.ble (e_cat st) 8) (cond (Nat.ble (o.toNat + 1) (e_sz h) && Nat.beq (e_get h o.toNat).1 (e_mc a)) (e_back pc lo st (EE B d a [R o, v1, v2, v3, v4, v5, v6] h)) none) none = _
    rw [b_and (Nat.ble_eq_true_of_le (Nat.le_add_left 7 _)) hc, kc_b hk hV]
    rfl) hct hq
theorem wk_cs102_1 {B : eB} {d y pc pc2 : Nat} {L : List (Option eV)} {st : List eV} {M : Mm} {Q : Nat → eV → Mm → Prop} {a c : Nat} {v1 : eV} {Qa : Nat → eV → Mm → Prop} (hr : Rw y pc pc2 3 102 a 1 c) (hc : Nat.ble (e_cat st) 8 = true) (hct : Ct B d a [v1] M Qa) (hq : Cq B d y pc2 L st Q Qa) : Wp B d y pc L (v1 :: st) M Q :=
  w_back hr rfl (fun lo h hV _ => by
    show cond (Nat.ble 1 (st.length + 1) && Nat.ble (e_cat st) 8) (e_back pc lo st (EE B d a [v1] h)) none = _
    rw [b_and (Nat.ble_eq_true_of_le (Nat.le_add_left 1 _)) hc]
    rfl) hct hq
theorem wk_cs102_2 {B : eB} {d y pc pc2 : Nat} {L : List (Option eV)} {st : List eV} {M : Mm} {Q : Nat → eV → Mm → Prop} {a c : Nat} {v1 v2 : eV} {Qa : Nat → eV → Mm → Prop} (hr : Rw y pc pc2 3 102 a 2 c) (hc : Nat.ble (e_cat st) 8 = true) (hct : Ct B d a [v1, v2] M Qa) (hq : Cq B d y pc2 L st Q Qa) : Wp B d y pc L (v2 :: v1 :: st) M Q :=
  w_back hr rfl (fun lo h hV _ => by
    show cond (Nat.ble 2 (st.length + 2) && Nat.ble (e_cat st) 8) (e_back pc lo st (EE B d a [v1, v2] h)) none = _
    rw [b_and (Nat.ble_eq_true_of_le (Nat.le_add_left 2 _)) hc]
    rfl) hct hq
theorem wk_cs102_6 {B : eB} {d y pc pc2 : Nat} {L : List (Option eV)} {st : List eV} {M : Mm} {Q : Nat → eV → Mm → Prop} {a c : Nat} {v1 v2 v3 v4 v5 v6 : eV} {Qa : Nat → eV → Mm → Prop} (hr : Rw y pc pc2 3 102 a 6 c) (hc : Nat.ble (e_cat st) 8 = true) (hct : Ct B d a [v1, v2, v3, v4, v5, v6] M Qa) (hq : Cq B d y pc2 L st Q Qa) : Wp B d y pc L (v6 :: v5 :: v4 :: v3 :: v2 :: v1 :: st) M Q :=
  w_back hr rfl (fun lo h hV _ => by
    show cond (Nat.ble 6 (st.length + 6) && Nat.ble (e_cat st) 8) (e_back pc lo st (EE B d a [v1, v2, v3, v4, v5, v6] h)) none = _
    rw [b_and (Nat.ble_eq_true_of_le (Nat.le_add_left 6 _)) hc]
    rfl) hct hq
theorem wk_cs113_3 {B : eB} {d y pc pc2 : Nat} {L : List (Option eV)} {st : List eV} {M : Mm} {Q : Nat → eV → Mm → Prop} {a c : Nat} {v1 v2 v3 : eV} {Qa : Nat → eV → Mm → Prop} (hr : Rw y pc pc2 3 113 a 3 c) (hc : Nat.ble (e_cat st) 8 = true) (hct : Ct B d a [v1, v2, v3] M Qa) (hq : Cq B d y pc2 L st Q Qa) : Wp B d y pc L (v3 :: v2 :: v1 :: st) M Q :=
  w_back hr rfl (fun lo h hV _ => by
    show cond (Nat.ble 3 (st.length + 3) && Nat.ble (e_cat st) 8) (e_back pc lo st (EE B d a [v1, v2, v3] h)) none = _
    rw [b_and (Nat.ble_eq_true_of_le (Nat.le_add_left 3 _)) hc]
    rfl) hct hq
theorem wk_cs113_4 {B : eB} {d y pc pc2 : Nat} {L : List (Option eV)} {st : List eV} {M : Mm} {Q : Nat → eV → Mm → Prop} {a c : Nat} {v1 v2 v3 v4 : eV} {Qa : Nat → eV → Mm → Prop} (hr : Rw y pc pc2 3 113 a 4 c) (hc : Nat.ble (e_cat st) 8 = true) (hct : Ct B d a [v1, v2, v3, v4] M Qa) (hq : Cq B d y pc2 L st Q Qa) : Wp B d y pc L (v4 :: v3 :: v2 :: v1 :: st) M Q :=
  w_back hr rfl (fun lo h hV _ => by
    show cond (Nat.ble 4 (st.length + 4) && Nat.ble (e_cat st) 8) (e_back pc lo st (EE B d a [v1, v2, v3, v4] h)) none = _
    rw [b_and (Nat.ble_eq_true_of_le (Nat.le_add_left 4 _)) hc]
    rfl) hct hq
theorem wk_cs113_5 {B : eB} {d y pc pc2 : Nat} {L : List (Option eV)} {st : List eV} {M : Mm} {Q : Nat → eV → Mm → Prop} {a c : Nat} {v1 v2 v3 v4 v5 : eV} {Qa : Nat → eV → Mm → Prop} (hr : Rw y pc pc2 3 113 a 5 c) (hc : Nat.ble (e_cat st) 8 = true) (hct : Ct B d a [v1, v2, v3, v4, v5] M Qa) (hq : Cq B d y pc2 L st Q Qa) : Wp B d y pc L (v5 :: v4 :: v3 :: v2 :: v1 :: st) M Q :=
  w_back hr rfl (fun lo h hV _ => by
    show cond (Nat.ble 5 (st.length + 5) && Nat.ble (e_cat st) 8) (e_back pc lo st (EE B d a [v1, v2, v3, v4, v5] h)) none = _
    rw [b_and (Nat.ble_eq_true_of_le (Nat.le_add_left 5 _)) hc]
    rfl) hct hq
theorem wk_ct1 {B : eB} {d y pc pc2 : Nat} {L : List (Option eV)} {st : List eV} {M : Mm} {Q : Nat → eV → Mm → Prop} {a c : Nat} {o : Int} {Qa : Nat → eV → Mm → Prop} (hr : Rw y pc pc2 3 115 a 1 c) (hk : 4097 ≤ o ∧ o ≤ 4132) (hc : Nat.ble (e_cat st) 8 = true) (hct : Ct B d a [R o] M Qa) (hq : Cq B d y pc2 L st Q Qa) : Wp B d y pc L (R o :: st) M Q :=
  w_back hr rfl (fun lo h hV _ => by
    show cond (Nat.ble 1 (st.length + 1) && Nat.ble (e_cat st) 8) (cond (Nat.ble 4097 o.toNat && Nat.ble o.toNat 4132) (e_back pc lo st (EE B d a [R o] h)) none) none = _
    rw [b_and (Nat.ble_eq_true_of_le (Nat.le_add_left 1 _)) hc, b_and (Nat.ble_eq_true_of_le (by omega)) (Nat.ble_eq_true_of_le (by omega))]
    rfl) hct hq
theorem wk_ct2 {B : eB} {d y pc pc2 : Nat} {L : List (Option eV)} {st : List eV} {M : Mm} {Q : Nat → eV → Mm → Prop} {a c : Nat} {o : Int} {v1 : eV} {Qa : Nat → eV → Mm → Prop} (hr : Rw y pc pc2 3 115 a 2 c) (hk : 4097 ≤ o ∧ o ≤ 4132) (hc : Nat.ble (e_cat st) 8 = true) (hct : Ct B d a [R o, v1] M Qa) (hq : Cq B d y pc2 L st Q Qa) : Wp B d y pc L (v1 :: R o :: st) M Q :=
  w_back hr rfl (fun lo h hV _ => by
    show cond (Nat.ble 2 (st.length + 2) && Nat.ble (e_cat st) 8) (cond (Nat.ble 4097 o.toNat && Nat.ble o.toNat 4132) (e_back pc lo st (EE B d a [R o, v1] h)) none) none = _
    rw [b_and (Nat.ble_eq_true_of_le (Nat.le_add_left 2 _)) hc, b_and (Nat.ble_eq_true_of_le (by omega)) (Nat.ble_eq_true_of_le (by omega))]
    rfl) hct hq
/-! what a method ends with -/
def qV (P : Mm → Prop) : Nat → eV → Mm → Prop := fun k _ M => k = 0 ∧ P M
def qI (P : Int → Mm → Prop) : Nat → eV → Mm → Prop := fun k v M => k = 1 ∧ ∃ z, v = I z ∧ P z M
def qL (P : Nat → Mm → Prop) : Nat → eV → Mm → Prop := fun k v M => k = 1 ∧ ∃ z, v = J z ∧ P z M
def qR (P : Int → Mm → Prop) : Nat → eV → Mm → Prop := fun k v M => k = 1 ∧ ∃ z, v = R z ∧ P z M
/-- .. or throws e -/
def qX (e : Nat) (X : Mm → Prop) (P : Nat → eV → Mm → Prop) : Nat → eV → Mm → Prop := fun k v M => (k = e + 2 ∧ X M) ∨ P k v M
theorem cqV {B : eB} {d y pc : Nat} {L : List (Option eV)} {st : List eV} {Q : Nat → eV → Mm → Prop} {P : Mm → Prop} (h : ∀ M2, P M2 → Wp B d y pc L st M2 Q) : Cq B d y pc L st Q (qV P) := fun k v M2 hq => ⟨fun _ => h M2 hq.2, fun e => absurd (hq.1.symm.trans e) (by decide), fun e => by have := hq.1; omega⟩
theorem cqI {B : eB} {d y pc : Nat} {L : List (Option eV)} {st : List eV} {Q : Nat → eV → Mm → Prop} {P : Int → Mm → Prop} (h : ∀ z M2, P z M2 → Wp B d y pc L (I z :: st) M2 Q) : Cq B d y pc L st Q (qI P) := fun k v M2 hq => ⟨fun e => absurd (hq.1.symm.trans e) (by decide), fun _ => by
  obtain ⟨-, z, rfl, h3⟩ := hq
  exact h z M2 h3, fun e => by have := hq.1; omega⟩
theorem cqL {B : eB} {d y pc : Nat} {L : List (Option eV)} {st : List eV} {Q : Nat → eV → Mm → Prop} {P : Nat → Mm → Prop} (h : ∀ z M2, P z M2 → Wp B d y pc L (J z :: st) M2 Q) : Cq B d y pc L st Q (qL P) := fun k v M2 hq => ⟨fun e => absurd (hq.1.symm.trans e) (by decide), fun _ => by
  obtain ⟨-, z, rfl, h3⟩ := hq
  exact h z M2 h3, fun e => by have := hq.1; omega⟩
theorem cqR {B : eB} {d y pc : Nat} {L : List (Option eV)} {st : List eV} {Q : Nat → eV → Mm → Prop} {P : Int → Mm → Prop} (h : ∀ z M2, P z M2 → Wp B d y pc L (R z :: st) M2 Q) : Cq B d y pc L st Q (qR P) := fun k v M2 hq => ⟨fun e => absurd (hq.1.symm.trans e) (by decide), fun _ => by
  obtain ⟨-, z, rfl, h3⟩ := hq
  exact h z M2 h3, fun e => by have := hq.1; omega⟩
theorem cqX {B : eB} {d y pc : Nat} {L : List (Option eV)} {st : List eV} {Q P : Nat → eV → Mm → Prop} {e : Nat} {X : Mm → Prop} (hx : ∀ v M2, X M2 → Q (e + 2) v M2) (h : Cq B d y pc L st Q P) : Cq B d y pc L st Q (qX e X P) := fun k v M2 hq => by
  rcases hq with ⟨rfl, h1⟩ | h1
  · exact ⟨fun e => by omega, fun e => by omega, fun _ => hx v M2 h1⟩
  · exact h k v M2 h1
/-- Arrays.fill -/
theorem ct_fi {B : eB} {d : Nat} {M : Mm} {o n z : Int} (ha : Ar o 100 n) : Ct B (d + 1) 265 [R o, I z] M (qV fun M2 => M2 = fil M o z) := by
  intro h hV
  obtain ⟨f1, f2, f3, f4, f5⟩ := ha
  refine ⟨(0, .inl 0, e_set h o.toNat (kd o.toNat, ln o.toNat, fun _ => I z)), fil M o z, ?_, Nat.le_refl _, Nat.le_refl _, V_fil hV f1 f2 (fun i _ => by rw [f3]; rfl), rfl, rfl⟩
  show (match e_get h o.toNat with
    | (k, n, _) => cond (Nat.ble (o.toNat + 1) (e_sz h) && Nat.ble n 1000000 && ((Nat.beq 265 265 && Nat.beq k 100 && e_typ 0 (I z)) || (Nat.beq 265 266 && Nat.beq k 102 && e_typ 2 (I z)) || (Nat.beq 265 267 && Nat.beq k 101 && e_typ 4 (I z)))) (some (0, .inl 0, e_set h o.toNat (k, n, fun _ => I z)) : Option eO) none) = _
  rw [V_get hV f2]
  show cond (Nat.ble (o.toNat + 1) (e_sz h) && Nat.ble (ln o.toNat) 1000000 && ((Nat.beq 265 265 && Nat.beq (kd o.toNat) 100 && e_typ 0 (I z)) || (Nat.beq 265 266 && Nat.beq (kd o.toNat) 102 && e_typ 2 (I z)) || (Nat.beq 265 267 && Nat.beq (kd o.toNat) 101 && e_typ 4 (I z)))) _ none = _
  rw [f3, b_and (Nat.ble_eq_true_of_le (by rw [hV.1]; exact f2)) (Nat.ble_eq_true_of_le f5)]
  rfl
theorem ct_fl {B : eB} {d : Nat} {M : Mm} {o n : Int} {z : Nat} (ha : Ar o 102 n) : Ct B (d + 1) 266 [R o, J z] M (qV fun M2 => M2 = fil M o (z : Int)) := by
  intro h hV
  obtain ⟨f1, f2, f3, f4, f5⟩ := ha
  refine ⟨(0, .inl 0, e_set h o.toNat (kd o.toNat, ln o.toNat, fun _ => J z)), fil M o (z : Int), ?_, Nat.le_refl _, Nat.le_refl _, V_fil hV f1 f2 (fun i _ => by rw [f3]; rfl), rfl, rfl⟩
  show (match e_get h o.toNat with
    | (k, n, _) => cond (Nat.ble (o.toNat + 1) (e_sz h) && Nat.ble n 1000000 && ((Nat.beq 266 265 && Nat.beq k 100 && e_typ 0 (J z)) || (Nat.beq 266 266 && Nat.beq k 102 && e_typ 2 (J z)) || (Nat.beq 266 267 && Nat.beq k 101 && e_typ 4 (J z)))) (some (0, .inl 0, e_set h o.toNat (k, n, fun _ => J z)) : Option eO) none) = _
  rw [V_get hV f2]
  show cond (Nat.ble (o.toNat + 1) (e_sz h) && Nat.ble (ln o.toNat) 1000000 && ((Nat.beq 266 265 && Nat.beq (kd o.toNat) 100 && e_typ 0 (J z)) || (Nat.beq 266 266 && Nat.beq (kd o.toNat) 102 && e_typ 2 (J z)) || (Nat.beq 266 267 && Nat.beq (kd o.toNat) 101 && e_typ 4 (J z)))) _ none = _
  rw [f3, b_and (Nat.ble_eq_true_of_le (by rw [hV.1]; exact f2)) (Nat.ble_eq_true_of_le f5)]
  rfl
theorem ct_fb {B : eB} {d : Nat} {M : Mm} {o n : Int} (ha : Ar o 101 n) : Ct B (d + 1) 267 [R o, I 0] M (qV fun M2 => M2 = fil M o 0) := by
  intro h hV
  obtain ⟨f1, f2, f3, f4, f5⟩ := ha
  refine ⟨(0, .inl 0, e_set h o.toNat (kd o.toNat, ln o.toNat, fun _ => I 0)), fil M o 0, ?_, Nat.le_refl _, Nat.le_refl _, V_fil hV f1 f2 (fun i _ => by rw [f3]; rfl), rfl, rfl⟩
  show (match e_get h o.toNat with
    | (k, n, _) => cond (Nat.ble (o.toNat + 1) (e_sz h) && Nat.ble n 1000000 && ((Nat.beq 267 265 && Nat.beq k 100 && e_typ 0 (I 0)) || (Nat.beq 267 266 && Nat.beq k 102 && e_typ 2 (I 0)) || (Nat.beq 267 267 && Nat.beq k 101 && e_typ 4 (I 0)))) (some (0, .inl 0, e_set h o.toNat (k, n, fun _ => I 0)) : Option eO) none) = _
  rw [V_get hV f2]
  show cond (Nat.ble (o.toNat + 1) (e_sz h) && Nat.ble (ln o.toNat) 1000000 && ((Nat.beq 267 265 && Nat.beq (kd o.toNat) 100 && e_typ 0 (I 0)) || (Nat.beq 267 266 && Nat.beq (kd o.toNat) 102 && e_typ 2 (I 0)) || (Nat.beq 267 267 && Nat.beq (kd o.toNat) 101 && e_typ 4 (I 0)))) _ none = _
  rw [f3, b_and (Nat.ble_eq_true_of_le (by rw [hV.1]; exact f2)) (Nat.ble_eq_true_of_le f5)]
  rfl
