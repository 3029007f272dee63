/-! ===== the engine: what an instruction does ===== -/
noncomputable abbrev xT (α : Type) (n : Nat) : Type := Nat.rec (motive := fun _ => Type) α (fun _ T => T × T) n
noncomputable def xget (α : Type) (n : Nat) : xT α n → Nat → α :=
  Nat.rec (motive := fun n => xT α n → Nat → α) (fun t _ => t) (fun n ih t i => cond (Nat.ble (2 ^ n) i) (ih (@Prod.snd (xT α n) (xT α n) t) (i - 2 ^ n)) (ih (@Prod.fst (xT α n) (xT α n) t) i)) n
noncomputable def xall (α : Type) (P : Nat → α → Bool) (n : Nat) : xT α n → Nat → Bool :=
  Nat.rec (motive := fun n => xT α n → Nat → Bool) (fun t b => P b t) (fun n ih t b => cond (ih (@Prod.fst (xT α n) (xT α n) t) b) (ih (@Prod.snd (xT α n) (xT α n) t) (b + 2 ^ n)) false) n
theorem xall_get {α : Type} {P : Nat → α → Bool} : ∀ (n : Nat) (t : xT α n) (b i : Nat), i < 2 ^ n → xall α P n t b = true → P (b + i) (xget α n t i) = true := by
  intro n
  induction n with
  | zero =>
    intro t b i hi h
    have h1 : i = 0 := by simpa using hi
    subst h1
    exact h
  | succ n ih =>
    intro t b i hi h
    have hp : 2 ^ (n + 1) = 2 ^ n + 2 ^ n := by rw [Nat.pow_succ]; omega
    have h' : cond (xall α P n (@Prod.fst (xT α n) (xT α n) t) b) (xall α P n (@Prod.snd (xT α n) (xT α n) t) (b + 2 ^ n)) false = true := h
    have hg : xget α (n + 1) t i = cond (Nat.ble (2 ^ n) i) (xget α n (@Prod.snd (xT α n) (xT α n) t) (i - 2 ^ n)) (xget α n (@Prod.fst (xT α n) (xT α n) t) i) := rfl
    rw [hg]
    cases h1 : xall α P n (@Prod.fst (xT α n) (xT α n) t) b with
    | false => rw [h1] at h'; cases h'
    | true =>
      rw [h1] at h'
      cases h2 : Nat.ble (2 ^ n) i with
      | false =>
        have a2 : ¬ 2 ^ n ≤ i := fun h => by rw [Nat.ble_eq_true_of_le h] at h2; cases h2
        exact ih _ b i (by omega) h1
      | true =>
        have a2 : 2 ^ n ≤ i := Nat.le_of_ble_eq_true h2
        have := ih _ (b + 2 ^ n) (i - 2 ^ n) (by omega) h'
        rw [show b + 2 ^ n + (i - 2 ^ n) = b + i by omega] at this
        exact this
/-- number of the instruction, its numbers, a place in the tables -/
abbrev eI : Type := Nat × Nat × Nat × Nat × Nat
abbrev eF : Type := Nat → Nat → Nat → eE → eB → eG → eR
def l32 (x : Nat) : Bool := Nat.ble x 4294967295
def e_up (f : Nat → eV) (k : Nat) (v : eV) : Nat → eV := fun j => cond (Nat.beq j k) v (f j)
def e_wide (v : eV) : Bool := match v with
  | .inr (.inl _) => true
  | _ => false
def e_lk : List (Nat × eV) → Nat → Option eV
  | [], _ => none
  | (j, v) :: r, i => cond (Nat.beq j i) (some v) (e_lk r i)
def e_st1 (lo : List (Nat × eV)) (i : Nat) (v : eV) : List (Nat × eV) := (i, v) :: lo.filter (fun q => !(Nat.beq q.1 i) && !(Nat.beq (q.1 + 1) i && e_wide q.2))
def e_st2 (lo : List (Nat × eV)) (i : Nat) (v : eV) : List (Nat × eV) := (i, v) :: lo.filter (fun q => !(Nat.beq q.1 i) && (!(Nat.beq q.1 (i + 1)) && !(Nat.beq (q.1 + 1) i && e_wide q.2)))
def e_args : Nat → List eV → List (Nat × eV)
  | _, [] => []
  | i, v :: r => (i, v) :: e_args (i + cond (e_wide v) 2 1) r
def e_cat : List eV → Nat
  | [] => 0
  | v :: r => cond (e_wide v) 2 1 + e_cat r
/-! constants -/
def f_no : eF := fun _ _ _ _ _ _ => none
def f_ipush (n : Nat) : eF := fun a _ _ _ _ g => match g with
  | (pc, lo, st, h) => some (.inl (pc + n, lo, .inl a :: st, h))
def f_lpush (n : Nat) : eF := fun a _ _ _ _ g => match g with
  | (pc, lo, st, h) => some (.inl (pc + n, lo, .inr (.inl a) :: st, h))
def f_rpush (n : Nat) : eF := fun a _ _ _ _ g => match g with
  | (pc, lo, st, h) => some (.inl (pc + n, lo, .inr (.inr (a + 1)) :: st, h))
/-! locals -/
def f_iload (n : Nat) : eF := fun a _ _ _ _ g => match g with
  | (pc, lo, st, h) => match e_lk lo a with
    | some (.inl x) => some (.inl (pc + n, lo, .inl x :: st, h))
    | _ => none
def f_lload (n : Nat) : eF := fun a _ _ _ _ g => match g with
  | (pc, lo, st, h) => match e_lk lo a with
    | some (.inr (.inl x)) => some (.inl (pc + n, lo, .inr (.inl x) :: st, h))
    | _ => none
def f_aload (n : Nat) : eF := fun a _ _ _ _ g => match g with
  | (pc, lo, st, h) => match e_lk lo a with
    | some (.inr (.inr (x + 1))) => some (.inl (pc + n, lo, .inr (.inr (x + 1)) :: st, h))
    | _ => none
def f_istore (n : Nat) : eF := fun a _ _ _ _ g => match g with
  | (pc, lo, .inl x :: st, h) => some (.inl (pc + n, e_st1 lo a (.inl x), st, h))
  | _ => none
def f_lstore (n : Nat) : eF := fun a _ _ _ _ g => match g with
  | (pc, lo, .inr (.inl x) :: st, h) => some (.inl (pc + n, e_st2 lo a (.inr (.inl x)), st, h))
  | _ => none
def f_astore (n : Nat) : eF := fun a _ _ _ _ g => match g with
  | (pc, lo, .inr (.inr (x + 1)) :: st, h) => some (.inl (pc + n, e_st1 lo a (.inr (.inr (x + 1))), st, h))
  | _ => none
def f_iinc : eF := fun a b _ _ _ g => match g with
  | (pc, lo, st, h) => match e_lk lo a with
    | some (.inl x) => cond (l32 x) (some (.inl (pc + 3, e_st1 lo a (.inl ((x + b) % 4294967296)), st, h))) (some (.inl (pc + 3, (e_st1 lo a (.inl 0)).tail, st, h)))
    | _ => none
/-! arithmetic -/
def e_ii (ok : Nat → Nat → Bool) (f : Nat → Nat → Nat) (g : eG) : eR := match g with
  | (pc, lo, .inl y :: .inl x :: r, h) => cond (l32 x && l32 y && ok x y) (some (.inl (pc + 1, lo, .inl (f x y % 4294967296) :: r, h))) none
  | _ => none
def e_ll (ok : Nat → Nat → Bool) (f : Nat → Nat → Nat) (g : eG) : eR := match g with
  | (pc, lo, .inr (.inl y) :: .inr (.inl x) :: r, h) => cond (ok x y) (some (.inl (pc + 1, lo, .inr (.inl (f x y % 18446744073709551616)) :: r, h))) none
  | _ => none
def e_li (ok : Nat → Nat → Bool) (f : Nat → Nat → Nat) (g : eG) : eR := match g with
  | (pc, lo, .inl y :: .inr (.inl x) :: r, h) => cond (l32 y && ok x y) (some (.inl (pc + 1, lo, .inr (.inl (f x y % 18446744073709551616)) :: r, h))) none
  | _ => none
def f_iadd : eF := fun _ _ _ _ _ g => e_ii (fun _ _ => true) (fun x y => x + y) g
def f_isub : eF := fun _ _ _ _ _ g => e_ii (fun _ _ => true) (fun x y => x + (4294967296 - y)) g
def f_imul : eF := fun _ _ _ _ _ g => e_ii (fun _ _ => true) (fun x y => x * y) g
def f_ior : eF := fun _ _ _ _ _ g => e_ii (fun _ _ => true) (fun x y => x ||| y) g
def f_ixor : eF := fun _ _ _ _ _ g => e_ii (fun _ _ => true) (fun x y => x ^^^ y) g
def f_ishl : eF := fun _ _ _ _ _ g => e_ii (fun _ _ => true) (fun x y => x * 2 ^ (y % 32)) g
def f_iushr : eF := fun _ _ _ _ _ g => e_ii (fun _ y => Nat.ble y 31) (fun x y => x / 2 ^ y) g
def f_ladd : eF := fun _ _ _ _ _ g => e_ll (fun _ _ => true) (fun x y => x + y) g
def f_lsub : eF := fun _ _ _ _ _ g => e_ll (fun _ y => Nat.ble y 18446744073709551615) (fun x y => x + (18446744073709551616 - y)) g
def f_land : eF := fun _ _ _ _ _ g => e_ll (fun _ _ => true) (fun x y => x &&& y) g
def f_lor : eF := fun _ _ _ _ _ g => e_ll (fun _ _ => true) (fun x y => x ||| y) g
def f_lxor : eF := fun _ _ _ _ _ g => e_ll (fun _ _ => true) (fun x y => x ^^^ y) g
def f_lshl : eF := fun _ _ _ _ _ g => e_li (fun _ y => Nat.ble y 63) (fun x y => x * 2 ^ y) g
def f_lushr : eF := fun _ _ _ _ _ g => e_li (fun x y => Nat.ble y 63 && Nat.ble x 18446744073709551615) (fun x y => x / 2 ^ y) g
/-- >> -/
def e_shr (x y : Nat) : Nat := cond (Nat.ble x 2147483647) (x / 2 ^ y) (4294967295 - (4294967295 - x) / 2 ^ y)
def f_ishr : eF := fun _ _ _ _ _ g => match g with
  | (pc, lo, .inl y :: .inl x :: r, h) => cond (l32 x && Nat.ble y 31) (some (.inl (pc + 1, lo, .inl (e_shr x y) :: r, h))) none
  | _ => none
def f_iand : eF := fun _ _ _ _ _ g => e_ii (fun _ _ => true) (fun x y => x &&& y) g
/-- (byte) -/
def e_i2b (x : Nat) : Nat := cond (Nat.ble (x % 256) 127) (x % 256) (x % 256 + 4294967040)
def f_i2b : eF := fun _ _ _ _ _ g => match g with
  | (pc, lo, .inl x :: r, h) => cond (l32 x) (some (.inl (pc + 1, lo, .inl (e_i2b x) :: r, h))) none
  | _ => none
def f_ineg : eF := fun _ _ _ _ _ g => match g with
  | (pc, lo, .inl x :: r, h) => cond (l32 x) (some (.inl (pc + 1, lo, .inl ((4294967296 - x) % 4294967296) :: r, h))) none
  | _ => none
/-- / and % of numbers that aren't negative -/
def f_idiv : eF := fun _ _ _ _ _ g => e_ii (fun x y => Nat.ble x 2147483647 && Nat.ble y 2147483647 && Nat.ble 1 y) (fun x y => x / y) g
def f_irem : eF := fun _ _ _ _ _ g => e_ii (fun x y => Nat.ble x 2147483647 && Nat.ble y 2147483647 && Nat.ble 1 y) (fun x y => x % y) g
def f_i2l : eF := fun _ _ _ _ _ g => match g with
  | (pc, lo, .inl x :: r, h) => cond (Nat.ble x 2147483647) (some (.inl (pc + 1, lo, .inr (.inl x) :: r, h))) (cond (l32 x) (some (.inl (pc + 1, lo, .inr (.inl (x + 18446744069414584320)) :: r, h))) none)
  | _ => none
def f_l2i : eF := fun _ _ _ _ _ g => match g with
  | (pc, lo, .inr (.inl x) :: r, h) => some (.inl (pc + 1, lo, .inl (x % 4294967296) :: r, h))
  | _ => none
def f_lcmp : eF := fun _ _ _ _ _ g => match g with
  | (pc, lo, .inr (.inl y) :: .inr (.inl x) :: r, h) => cond (Nat.ble x 18446744073709551615 && Nat.ble y 18446744073709551615) (cond (Nat.beq x y) (some (.inl (pc + 1, lo, .inl 0 :: r, h)))
      (cond (Nat.ble ((x + 9223372036854775808) % 18446744073709551616) ((y + 9223372036854775808) % 18446744073709551616)) (some (.inl (pc + 1, lo, .inl 4294967295 :: r, h))) (some (.inl (pc + 1, lo, .inl 1 :: r, h))))) none
  | _ => none
/-! stack -/
def f_dup : eF := fun _ _ _ _ _ g => match g with
  | (pc, lo, v :: r, h) => cond (e_wide v) none (some (.inl (pc + 1, lo, v :: v :: r, h)))
  | _ => none
def f_pop : eF := fun _ _ _ _ _ g => match g with
  | (pc, lo, v :: r, h) => cond (e_wide v) none (some (.inl (pc + 1, lo, r, h)))
  | _ => none
def f_dup2 : eF := fun _ _ _ _ _ g => match g with
  | (pc, lo, v :: w :: r, h) => cond (e_wide v || e_wide w) none (some (.inl (pc + 1, lo, v :: w :: v :: w :: r, h)))
  | _ => none
/-! branches -/
def e_rng (B : eB) (x : Nat) : Nat × Nat := cond (l32 x) ((x + 2147483648) % 4294967296, (x + 2147483648) % 4294967296) (B x)
def e_lt (u v : Nat × Nat) : Option Bool := cond (Nat.ble (u.2 + 1) v.1) (some true) (cond (Nat.ble v.2 u.1) (some false) none)
def e_eq (u v : Nat × Nat) : Option Bool := cond (Nat.beq u.1 u.2 && Nat.beq v.1 v.2 && Nat.beq u.1 v.1) (some true) (cond (Nat.ble (u.2 + 1) v.1 || Nat.ble (v.2 + 1) u.1) (some false) none)
/-- 0 =, 1 not =, 2 <, 3 >=, 4 >, 5 <= -/
def e_cmp (k : Nat) (u v : Nat × Nat) : Option Bool := match k with
  | 0 => e_eq u v
  | 1 => (e_eq u v).map not
  | 2 => e_lt u v
  | 3 => (e_lt u v).map not
  | 4 => e_lt v u
  | _ => (e_lt v u).map not
def e_go (b : Option Bool) (g1 g2 : eG) : eR := match b with
  | some true => some (.inl g1)
  | some false => some (.inl g2)
  | none => none
def f_goto : eF := fun a _ _ _ _ g => match g with
  | (_, lo, st, h) => some (.inl (a, lo, st, h))
def f_if (k : Nat) : eF := fun a _ _ _ B g => match g with
  | (pc, lo, .inl x :: r, h) => e_go (e_cmp k (e_rng B x) (2147483648, 2147483648)) (a, lo, r, h) (pc + 3, lo, r, h)
  | _ => none
def f_icmp (k : Nat) : eF := fun a _ _ _ B g => match g with
  | (pc, lo, .inl y :: .inl x :: r, h) => e_go (e_cmp k (e_rng B x) (e_rng B y)) (a, lo, r, h) (pc + 3, lo, r, h)
  | _ => none
/-- a tableswitch from 0 or 1 on: default, lowest, the targets -/
def f_table (sw : Nat → Nat × Nat × List Nat) : eF := fun a _ _ _ B g => match g with
  | (_, lo, .inl x :: r, h) => match sw a with
    | (d, lw, ts) => match e_lt (e_rng B x) (2147483648 + lw, 2147483648 + lw) with
      | some true => some (.inl (d, lo, r, h))
      | some false => match e_lt (e_rng B x) (2147483648 + lw + ts.length, 2147483648 + lw + ts.length) with
        | some false => some (.inl (d, lo, r, h))
        | some true => cond (l32 x) (match ts[x - lw]? with
          | some t => some (.inl (t, lo, r, h))
          | none => none) none
        | none => none
      | none => none
  | _ => none
/-! ends -/
def f_iret : eF := fun a _ _ _ _ g => match g with
  | (_, _, .inl x :: r, h) => cond (r.isEmpty && (Nat.beq a 0 || Nat.ble x 1)) (some (.inr (1, .inl x, h))) none
  | _ => none
def f_lret : eF := fun _ _ _ _ _ g => match g with
  | (_, _, .inr (.inl x) :: r, h) => cond r.isEmpty (some (.inr (1, .inr (.inl x), h))) none
  | _ => none
def f_aret : eF := fun _ _ _ _ _ g => match g with
  | (_, _, .inr (.inr x) :: r, h) => cond r.isEmpty (some (.inr (1, .inr (.inr x), h))) none
  | _ => none
def f_ret : eF := fun _ _ _ _ _ g => match g with
  | (_, _, st, h) => cond st.isEmpty (some (.inr (0, .inl 0, h))) none
/-! cells -/
noncomputable def f_getf : eF := fun a b _ _ _ g => match g with
  | (pc, lo, .inr (.inr (r + 1)) :: st, h) => match e_get h r with
    | (k, n, f) => cond (Nat.ble (r + 1) (e_sz h) && Nat.ble r 1023 && Nat.beq k a && Nat.ble (b + 1) n) (some (.inl (pc + 3, lo, f b :: st, h))) none
  | _ => none
/-- c: 0 an int, 1 a boolean, 2 a long, 3 a reference, 4 a byte -/
def e_typ (c : Nat) (v : eV) : Bool := match v with
  | .inl x => Nat.beq c 0 || (Nat.beq c 1 && Nat.ble x 1) || (Nat.beq c 4 && (Nat.ble x 127 || (Nat.ble 4294967168 x && l32 x)))
  | .inr (.inl _) => Nat.beq c 2
  | .inr (.inr _) => Nat.beq c 3
noncomputable def f_putf : eF := fun a b c _ _ g => match g with
  | (pc, lo, v :: .inr (.inr (r + 1)) :: st, h) => match e_get h r with
    | (k, n, f) => cond (Nat.ble (r + 1) (e_sz h) && Nat.ble r 1023 && Nat.beq k a && Nat.ble (b + 1) n && e_typ c v) (some (.inl (pc + 3, lo, st, e_set h r (k, n, e_up f b v)))) none
  | _ => none
/-- t: 100 int, 101 byte, 102 long, 103 Code, 104 long[] -/
noncomputable def e_at (t : Nat) (h : eH) (r x : Nat) : Option eV := match e_get h r with
  | (k, n, f) => cond (Nat.ble (r + 1) (e_sz h) && Nat.ble r 1023 && Nat.beq k t && Nat.ble (x + 1) n && Nat.ble n 1000000) (some (f x)) none
noncomputable def f_xald (t : Nat) (c : Nat) : eF := fun _ _ _ _ _ g => match g with
  | (pc, lo, .inl x :: .inr (.inr (r + 1)) :: st, h) => match e_at t h r x with
    | some v => cond (e_typ c v) (some (.inl (pc + 1, lo, v :: st, h))) none
    | none => none
  | _ => none
/-- the law's script lies at the address 4096, its length is told (B 0), its numbers too (B from 2^40 on) -/
def f_sald : eF := fun _ _ _ _ B g => match g with
  | (pc, lo, .inl x :: .inr (.inr (r + 1)) :: st, h) => cond (Nat.beq r 4096 && Nat.beq (B 0).2 1 && Nat.ble (x + 1) (B 0).1 && Nat.ble x 4095 && Nat.beq (B (1099511627776 + x)).1 (B (1099511627776 + x)).2 && l32 (B (1099511627776 + x)).1) (some (.inl (pc + 1, lo, .inl (((B (1099511627776 + x)).1 + 2147483648) % 4294967296) :: st, h))) none
  | _ => none
def f_slen : eF := fun _ _ _ _ B g => match g with
  | (pc, lo, .inr (.inr (r + 1)) :: st, h) => cond (Nat.beq r 4096 && Nat.beq (B 0).2 1 && Nat.ble (B 0).1 100000) (some (.inl (pc + 1, lo, .inl (B 0).1 :: st, h))) none
  | _ => none
/-- the row of kinds lies at the address 4095 -/
def f_kget : eF := fun _ _ _ _ _ g => match g with
  | (pc, lo, st, h) => some (.inl (pc + 3, lo, .inr (.inr 4096) :: st, h))
def e_kind (x : Nat) : Nat := cond (Nat.ble x 2) x (x - 1)
def f_kald : eF := fun _ _ _ _ _ g => match g with
  | (pc, lo, .inl x :: .inr (.inr (r + 1)) :: st, h) => cond (Nat.beq r 4095 && Nat.ble x 5) (some (.inl (pc + 1, lo, .inl (e_kind x) :: st, h))) none
  | _ => none
noncomputable def f_xast (t : Nat) (c : Nat) : eF := fun _ _ _ _ _ g => match g with
  | (pc, lo, v :: .inl x :: .inr (.inr (r + 1)) :: st, h) => match e_get h r with
    | (k, n, f) => cond (Nat.ble (r + 1) (e_sz h) && Nat.ble r 1023 && Nat.beq k t && Nat.ble (x + 1) n && Nat.ble n 1000000 && e_typ c v) (some (.inl (pc + 1, lo, st, e_set h r (k, n, e_up f x v)))) none
  | _ => none
/-- aastore of a Code -/
noncomputable def f_aast : eF := fun _ _ _ _ _ g => match g with
  | (pc, lo, .inr (.inr (q + 1)) :: .inl x :: .inr (.inr (r + 1)) :: st, h) => match e_get h r with
    | (k, n, f) => match e_get h q with
      | (k2, _, _) => cond (Nat.ble (r + 1) (e_sz h) && Nat.ble r 1023 && Nat.ble (q + 1) (e_sz h) && Nat.ble q 1023 && Nat.beq k 103 && Nat.beq k2 1 && Nat.ble (x + 1) n && Nat.ble n 1000000) (some (.inl (pc + 1, lo, st, e_set h r (k, n, e_up f x (.inr (.inr (q + 1))))))) none
  | _ => none
noncomputable def f_alen : eF := fun _ _ _ _ _ g => match g with
  | (pc, lo, .inr (.inr (r + 1)) :: st, h) => match e_get h r with
    | (k, n, _) => cond (Nat.ble (r + 1) (e_sz h) && Nat.ble r 1023 && Nat.ble 100 k && Nat.ble k 104 && Nat.ble n 1000000) (some (.inl (pc + 1, lo, .inl n :: st, h))) none
  | _ => none
def e_new (h : eH) : Bool := Nat.beq (e_cn h) (e_sz h) && Nat.ble (e_sz h) 1022
/-- a: 100 int, 101 byte, 102 long -/
noncomputable def f_newa : eF := fun a _ _ _ _ g => match g with
  | (pc, lo, .inl n :: st, h) => cond (e_new h && Nat.ble n 1000000) (some (.inl (pc + 2, lo, .inr (.inr (e_sz h + 1)) :: st, e_push h (a, n, fun _ => cond (Nat.beq a 102) (.inr (.inl 0)) (.inl 0)) n))) none
  | _ => none
noncomputable def f_anew : eF := fun _ _ _ _ _ g => match g with
  | (pc, lo, .inl n :: st, h) => cond (e_new h && Nat.ble n 1000000) (some (.inl (pc + 3, lo, .inr (.inr (e_sz h + 1)) :: st, e_push h (103, n, fun _ => .inr (.inr 0)) n))) none
  | _ => none
noncomputable def e_rows (k : Nat) (n : Nat) (h : eH) : eH := Nat.rec (motive := fun _ => eH) h (fun _ h => e_push h (102, k, fun _ => .inr (.inl 0)) k) n
noncomputable def f_mnew : eF := fun _ _ _ _ _ g => match g with
  | (pc, lo, .inl k :: .inl n :: st, h) => cond (Nat.beq (e_cn h) (e_sz h) && Nat.ble (e_sz h + n) 1022 && Nat.ble n 1000000 && Nat.ble k 1000000)
      (some (.inl (pc + 4, lo, .inr (.inr (e_sz h + 1)) :: st, e_rows k n (e_push h (104, n, fun j => .inr (.inr (e_sz h + 2 + j))) n)))) none
  | _ => none
/-- sz: how many fields a class has; dv: what a new object's fields hold -/
noncomputable def f_new (sz : Nat → Nat) (dv : Nat → Nat → eV) : eF := fun a _ _ _ _ g => match g with
  | (pc, lo, st, h) => cond (e_new h) (some (.inl (pc + 3, lo, .inr (.inr (e_sz h + 1)) :: st, e_push h (a, sz a, dv a) (sz a)))) none
/-! calls -/
def e_back (pc : Nat) (lo : List (Nat × eV)) (st : List eV) (o : Option eO) : eR := match o with
  | some (0, _, h) => some (.inl (pc + 3, lo, st, h))
  | some (1, v, h) => some (.inl (pc + 3, lo, v :: st, h))
  | some (k + 2, v, h) => some (.inr (k + 2, v, h))
  | none => none
/-- a: the method, b: how many things lie on the stack for it -/
def f_call : eF := fun a b _ E _ g => match g with
  | (pc, lo, st, h) => cond (Nat.ble b st.length && Nat.ble (e_cat (st.drop b)) 8) (e_back pc lo (st.drop b) (E a (st.take b).reverse h)) none
/-- a constructor: it ends with nothing -/
def f_calli : eF := fun a b _ E _ g => match g with
  | (pc, lo, st, h) => cond (Nat.ble b st.length && Nat.ble (e_cat (st.drop b)) 8) (match (st.take b).reverse with
    | .inr (.inr (r + 1)) :: as => match E a (.inr (.inr (r + 1)) :: as) h with
      | some (0, v, h2) => e_back pc lo (st.drop b) (some (0, v, h2))
      | _ => none
    | _ => none) none
/-- a method of a known thing; mc: the method's class -/
noncomputable def f_callv (mc : Nat → Nat) : eF := fun a b _ E _ g => match g with
  | (pc, lo, st, h) => cond (Nat.ble b st.length && Nat.ble (e_cat (st.drop b)) 8) (match (st.take b).reverse with
    | .inr (.inr (r + 1)) :: as => cond (Nat.ble (r + 1) (e_sz h) && Nat.beq (e_get h r).1 (mc a)) (e_back pc lo (st.drop b) (E a (.inr (.inr (r + 1)) :: as) h)) none
    | _ => none) none
/-- a method of a text that lies there -/
def f_calls : eF := fun a b _ E _ g => match g with
  | (pc, lo, st, h) => cond (Nat.ble b st.length && Nat.ble (e_cat (st.drop b)) 8) (match (st.take b).reverse with
    | .inr (.inr (r + 1)) :: as => cond (Nat.ble 4097 r && Nat.ble r 4132) (e_back pc lo (st.drop b) (E a (.inr (.inr (r + 1)) :: as) h)) none
    | _ => none) none
def f_oinit : eF := fun _ _ _ _ _ g => match g with
  | (pc, lo, .inr (.inr (_ + 1)) :: st, h) => cond (Nat.ble (e_cat st) 8) (some (.inl (pc + 3, lo, st, h))) none
  | _ => none
def e_thr (h : eH) : eH := (h.1 + 1, h.2.1 + 6, h.2.2.1, h.2.2.2)
/-- throw new .. -/
def f_throw : eF := fun a _ _ _ _ g => match g with
  | (_, _, st, h) => cond (Nat.ble (e_cat st) 8) (some (.inr (a + 2, .inl 0, e_thr h))) none
/-- a call of which what is thrown (c) is caught: the handler answers 1 -/
noncomputable def f_callc (mc : Nat → Nat) (xk : Nat → Nat) : eF := fun a b _ E _ g => match g with
  | (pc, lo, st, h) => cond (Nat.ble b st.length && Nat.ble (e_cat (st.drop b)) 8) (match (st.take b).reverse with
    | .inr (.inr (r + 1)) :: as => cond (Nat.ble (r + 1) (e_sz h) && Nat.beq (e_get h r).1 (mc a)) (match E a (.inr (.inr (r + 1)) :: as) h with
      | some (k + 2, _, h2) => cond (Nat.beq k (xk a)) (some (.inr (1, .inl 1, h2))) none
      | o => e_back pc lo (st.drop b) o) none
    | _ => none) none
/-- String.length and String.charAt of a text that lies there, by the method's number -/
def e_pstr : eE := fun y as h => match as with
  | [.inr (.inr (r + 1))] => cond (Nat.beq y 268 && Nat.ble 4097 r && Nat.ble r 4132) (some (1, .inl (lenS.getD (r - 4097) 0), h)) none
  | [.inr (.inr (r + 1)), .inl x] => cond (Nat.beq y 269 && Nat.ble 4097 r && Nat.ble r 4132 && Nat.ble (x + 1) (lenS.getD (r - 4097) 0)) (some (1, .inl ((bytN.getD (r - 4097) []).getD x 0), h)) none
  | _ => none
/-- Arrays.fill, by the method's number -/
noncomputable def e_prim : eE := fun y as h => cond (Nat.ble 268 y) (e_pstr y as h) (match as with
  | [.inr (.inr (r + 1)), v] => match e_get h r with
    | (k, n, _) => cond (Nat.ble (r + 1) (e_sz h) && Nat.ble n 1000000 && ((Nat.beq y 265 && Nat.beq k 100 && e_typ 0 v) || (Nat.beq y 266 && Nat.beq k 102 && e_typ 2 v) || (Nat.beq y 267 && Nat.beq k 101 && e_typ 4 v))) (some (0, .inl 0, e_set h r (k, n, fun _ => v))) none
  | _ => none)
def e_cpy (f g : Nat → eV) (sp dp n : Nat) : Nat → eV := fun k => cond (Nat.ble dp k && Nat.ble (k + 1) (dp + n)) (f (sp + (k - dp))) (g k)
noncomputable def f_copy (t : Nat) : eF := fun _ _ _ _ _ g => match g with
  | (pc, lo, .inl n :: .inl dp :: .inr (.inr (q + 1)) :: .inl sp :: .inr (.inr (r + 1)) :: st, h) => match e_get h r with
    | (k, m, f) => match e_get h q with
      | (k2, m2, f2) => cond (Nat.ble (r + 1) (e_sz h) && Nat.ble r 1023 && Nat.ble (q + 1) (e_sz h) && Nat.ble q 1023 && Nat.beq k t && Nat.beq k2 t && Nat.ble (sp + n) m && Nat.ble (dp + n) m2 && Nat.ble m 1000000 && Nat.ble m2 1000000 && !(Nat.beq r q) && Nat.ble (e_cat st) 8)
          (some (.inl (pc + 3, lo, st, e_set h q (k2, m2, e_cpy f f2 sp dp n)))) none
  | _ => none
/-- Math.min -/
def f_min : eF := fun _ _ _ _ B g => match g with
  | (pc, lo, .inl y :: .inl x :: r, h) => cond (Nat.ble (e_cat r) 8) (match e_lt (e_rng B y) (e_rng B x) with
    | some true => some (.inl (pc + 3, lo, .inl y :: r, h))
    | some false => some (.inl (pc + 3, lo, .inl x :: r, h))
    | none => none) none
  | _ => none
/-! runs -/
def e_mono (h h2 : eH) : Bool := Nat.ble (e_cn h) (e_cn h2) && Nat.ble (e_sl h) (e_sl h2)
def e_next (ih : eG → Option eO) (g : eG) (r : eR) : Option eO := match r with
  | none => none
  | some (.inl g2) => cond (e_mono g.2.2.2 g2.2.2.2) (ih g2) none
  | some (.inr o) => cond (e_mono g.2.2.2 o.2.2) (some o) none
noncomputable def e_step (T : xT eF 7) (t : xT eI 11) (E : eE) (B : eB) (g : eG) : eR := match xget eI 11 t g.1 with
  | (op, a, b, c, _) => cond (Nat.ble g.1 2047 && Nat.ble op 127) (xget eF 7 T op a b c E B g) none
noncomputable def e_run (T : xT eF 7) (t : xT eI 11) (E : eE) (B : eB) (n : Nat) : eG → Option eO :=
  Nat.rec (motive := fun _ => eG → Option eO) (fun _ => none) (fun _ ih g => e_next ih g (e_step T t E B g)) n
/-- numbers without rows: fills, String's two; 270 is thrown() -/
def isPr (y : Nat) : Bool := Nat.ble 265 y && !Nat.beq y 270
noncomputable def e_eval (T : xT eF 7) (P : xT (xT eI 11) 9) (ml : Nat → Nat) (B : eB) (d : Nat) : eE :=
  Nat.rec (motive := fun _ => eE) (fun _ _ _ => none) (fun _ ih y as h => cond (isPr y) (e_prim y as h) (cond (Nat.ble (e_cat as) (ml y)) (e_run T (xget (xT eI 11) 9 P y) ih B 5000 (0, e_args 0 as, [], h)) none)) d
/-- however many steps -/
noncomputable def e_any (f : Nat → Option eO) : Option eO := @dite _ (∃ n o, f n = some o) (Classical.propDecidable _) (fun h => f (Classical.choose h)) (fun _ => none)
noncomputable def e_evC (T : xT eF 7) (P : xT (xT eI 11) 9) (ml : Nat → Nat) (B : eB) (d : Nat) : eE :=
  Nat.rec (motive := fun _ => eE) (fun _ _ _ => none) (fun _ ih y as h => cond (isPr y) (e_prim y as h) (cond (Nat.ble (e_cat as) (ml y)) (e_any fun n => e_run T (xget (xT eI 11) 9 P y) ih B n (0, e_args 0 as, [], h)) none)) d
