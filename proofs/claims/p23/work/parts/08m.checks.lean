/-! ===== written by program (wip/engine2/gen10.py): the tables are right ===== -/
theorem xall_mk {α : Type} {P : Nat → α → Bool} {n x : Nat} {a b : xT α n} (h1 : xall α P n a x = true) (h2 : xall α P n b (x + 2 ^ n) = true) : xall α P (n + 1) (@Prod.mk (xT α n) (xT α n) a b) x = true := by
  have e : xall α P (n + 1) (@Prod.mk (xT α n) (xT α n) a b) x = cond (xall α P n a x) (xall α P n b (x + 2 ^ n)) false := rfl
  rw [e, h1, h2]
  rfl
noncomputable def kY (y : Nat) (t : xT eI 11) : Bool := xall eI (kR y) 11 t 0
theorem xall_2 {α : Type} {P : Nat → α → Bool} {n x : Nat} {t : xT α (n + 1)} (h1 : xall α P n (@Prod.fst (xT α n) (xT α n) t) x = true) (h2 : xall α P n (@Prod.snd (xT α n) (xT α n) t) (x + 2 ^ n) = true) : xall α P (n + 1) t x = true := by
  have e : xall α P (n + 1) t x = cond (xall α P n (@Prod.fst (xT α n) (xT α n) t) x) (xall α P n (@Prod.snd (xT α n) (xT α n) t) (x + 2 ^ n)) false := rfl
  rw [e, h1, h2]
  rfl
theorem lk_0 : xall eI (kR 0) 6 (@Prod.fst (xT eI 6) (xT eI 6) (@Prod.fst (xT eI 7) (xT eI 7) (@Prod.fst (xT eI 8) (xT eI 8) (@Prod.fst (xT eI 9) (xT eI 9) (@Prod.fst (xT eI 10) (xT eI 10) pg_0))))) 0 = true := by decide +kernel
theorem lk_1 : xall eI (kR 0) 6 (@Prod.snd (xT eI 6) (xT eI 6) (@Prod.fst (xT eI 7) (xT eI 7) (@Prod.fst (xT eI 8) (xT eI 8) (@Prod.fst (xT eI 9) (xT eI 9) (@Prod.fst (xT eI 10) (xT eI 10) pg_0))))) 64 = true := by decide +kernel
theorem lk_2 : xall eI (kR 0) 6 (@Prod.fst (xT eI 6) (xT eI 6) (@Prod.snd (xT eI 7) (xT eI 7) (@Prod.fst (xT eI 8) (xT eI 8) (@Prod.fst (xT eI 9) (xT eI 9) (@Prod.fst (xT eI 10) (xT eI 10) pg_0))))) 128 = true := by decide +kernel
theorem lk_3 : xall eI (kR 0) 6 (@Prod.snd (xT eI 6) (xT eI 6) (@Prod.snd (xT eI 7) (xT eI 7) (@Prod.fst (xT eI 8) (xT eI 8) (@Prod.fst (xT eI 9) (xT eI 9) (@Prod.fst (xT eI 10) (xT eI 10) pg_0))))) 192 = true := by decide +kernel
theorem lk_4 : xall eI (kR 0) 6 (@Prod.fst (xT eI 6) (xT eI 6) (@Prod.fst (xT eI 7) (xT eI 7) (@Prod.snd (xT eI 8) (xT eI 8) (@Prod.fst (xT eI 9) (xT eI 9) (@Prod.fst (xT eI 10) (xT eI 10) pg_0))))) 256 = true := by decide +kernel
theorem lk_5 : xall eI (kR 0) 6 (@Prod.snd (xT eI 6) (xT eI 6) (@Prod.fst (xT eI 7) (xT eI 7) (@Prod.snd (xT eI 8) (xT eI 8) (@Prod.fst (xT eI 9) (xT eI 9) (@Prod.fst (xT eI 10) (xT eI 10) pg_0))))) 320 = true := by decide +kernel
theorem lk_6 : xall eI (kR 0) 6 (@Prod.fst (xT eI 6) (xT eI 6) (@Prod.snd (xT eI 7) (xT eI 7) (@Prod.snd (xT eI 8) (xT eI 8) (@Prod.fst (xT eI 9) (xT eI 9) (@Prod.fst (xT eI 10) (xT eI 10) pg_0))))) 384 = true := by decide +kernel
theorem lk_7 : xall eI (kR 0) 6 (@Prod.snd (xT eI 6) (xT eI 6) (@Prod.snd (xT eI 7) (xT eI 7) (@Prod.snd (xT eI 8) (xT eI 8) (@Prod.fst (xT eI 9) (xT eI 9) (@Prod.fst (xT eI 10) (xT eI 10) pg_0))))) 448 = true := by decide +kernel
theorem lk_8 : xall eI (kR 0) 6 (@Prod.fst (xT eI 6) (xT eI 6) (@Prod.fst (xT eI 7) (xT eI 7) (@Prod.fst (xT eI 8) (xT eI 8) (@Prod.snd (xT eI 9) (xT eI 9) (@Prod.fst (xT eI 10) (xT eI 10) pg_0))))) 512 = true := by decide +kernel
theorem lk_9 : xall eI (kR 0) 6 (@Prod.snd (xT eI 6) (xT eI 6) (@Prod.fst (xT eI 7) (xT eI 7) (@Prod.fst (xT eI 8) (xT eI 8) (@Prod.snd (xT eI 9) (xT eI 9) (@Prod.fst (xT eI 10) (xT eI 10) pg_0))))) 576 = true := by decide +kernel
theorem lk_10 : xall eI (kR 0) 6 (@Prod.fst (xT eI 6) (xT eI 6) (@Prod.snd (xT eI 7) (xT eI 7) (@Prod.fst (xT eI 8) (xT eI 8) (@Prod.snd (xT eI 9) (xT eI 9) (@Prod.fst (xT eI 10) (xT eI 10) pg_0))))) 640 = true := by decide +kernel
theorem lk_11 : xall eI (kR 0) 6 (@Prod.snd (xT eI 6) (xT eI 6) (@Prod.snd (xT eI 7) (xT eI 7) (@Prod.fst (xT eI 8) (xT eI 8) (@Prod.snd (xT eI 9) (xT eI 9) (@Prod.fst (xT eI 10) (xT eI 10) pg_0))))) 704 = true := by decide +kernel
theorem lk_12 : xall eI (kR 0) 6 (@Prod.fst (xT eI 6) (xT eI 6) (@Prod.fst (xT eI 7) (xT eI 7) (@Prod.snd (xT eI 8) (xT eI 8) (@Prod.snd (xT eI 9) (xT eI 9) (@Prod.fst (xT eI 10) (xT eI 10) pg_0))))) 768 = true := by decide +kernel
theorem lk_13 : xall eI (kR 0) 6 (@Prod.snd (xT eI 6) (xT eI 6) (@Prod.fst (xT eI 7) (xT eI 7) (@Prod.snd (xT eI 8) (xT eI 8) (@Prod.snd (xT eI 9) (xT eI 9) (@Prod.fst (xT eI 10) (xT eI 10) pg_0))))) 832 = true := by decide +kernel
theorem lk_14 : xall eI (kR 0) 6 (@Prod.fst (xT eI 6) (xT eI 6) (@Prod.snd (xT eI 7) (xT eI 7) (@Prod.snd (xT eI 8) (xT eI 8) (@Prod.snd (xT eI 9) (xT eI 9) (@Prod.fst (xT eI 10) (xT eI 10) pg_0))))) 896 = true := by decide +kernel
theorem lk_15 : xall eI (kR 0) 6 (@Prod.snd (xT eI 6) (xT eI 6) (@Prod.snd (xT eI 7) (xT eI 7) (@Prod.snd (xT eI 8) (xT eI 8) (@Prod.snd (xT eI 9) (xT eI 9) (@Prod.fst (xT eI 10) (xT eI 10) pg_0))))) 960 = true := by decide +kernel
theorem lk_16 : xall eI (kR 0) 6 (@Prod.fst (xT eI 6) (xT eI 6) (@Prod.fst (xT eI 7) (xT eI 7) (@Prod.fst (xT eI 8) (xT eI 8) (@Prod.fst (xT eI 9) (xT eI 9) (@Prod.snd (xT eI 10) (xT eI 10) pg_0))))) 1024 = true := by decide +kernel
theorem lk_17 : xall eI (kR 0) 6 (@Prod.snd (xT eI 6) (xT eI 6) (@Prod.fst (xT eI 7) (xT eI 7) (@Prod.fst (xT eI 8) (xT eI 8) (@Prod.fst (xT eI 9) (xT eI 9) (@Prod.snd (xT eI 10) (xT eI 10) pg_0))))) 1088 = true := by decide +kernel
theorem lk_18 : xall eI (kR 0) 6 (@Prod.fst (xT eI 6) (xT eI 6) (@Prod.snd (xT eI 7) (xT eI 7) (@Prod.fst (xT eI 8) (xT eI 8) (@Prod.fst (xT eI 9) (xT eI 9) (@Prod.snd (xT eI 10) (xT eI 10) pg_0))))) 1152 = true := by decide +kernel
theorem lk_19 : xall eI (kR 0) 6 (@Prod.snd (xT eI 6) (xT eI 6) (@Prod.snd (xT eI 7) (xT eI 7) (@Prod.fst (xT eI 8) (xT eI 8) (@Prod.fst (xT eI 9) (xT eI 9) (@Prod.snd (xT eI 10) (xT eI 10) pg_0))))) 1216 = true := by decide +kernel
theorem lk_20 : xall eI (kR 0) 6 (@Prod.fst (xT eI 6) (xT eI 6) (@Prod.fst (xT eI 7) (xT eI 7) (@Prod.snd (xT eI 8) (xT eI 8) (@Prod.fst (xT eI 9) (xT eI 9) (@Prod.snd (xT eI 10) (xT eI 10) pg_0))))) 1280 = true := by decide +kernel
theorem lk_21 : xall eI (kR 0) 6 (@Prod.snd (xT eI 6) (xT eI 6) (@Prod.fst (xT eI 7) (xT eI 7) (@Prod.snd (xT eI 8) (xT eI 8) (@Prod.fst (xT eI 9) (xT eI 9) (@Prod.snd (xT eI 10) (xT eI 10) pg_0))))) 1344 = true := by decide +kernel
theorem lk_22 : xall eI (kR 0) 6 (@Prod.fst (xT eI 6) (xT eI 6) (@Prod.snd (xT eI 7) (xT eI 7) (@Prod.snd (xT eI 8) (xT eI 8) (@Prod.fst (xT eI 9) (xT eI 9) (@Prod.snd (xT eI 10) (xT eI 10) pg_0))))) 1408 = true := by decide +kernel
theorem lk_23 : xall eI (kR 0) 6 (@Prod.snd (xT eI 6) (xT eI 6) (@Prod.snd (xT eI 7) (xT eI 7) (@Prod.snd (xT eI 8) (xT eI 8) (@Prod.fst (xT eI 9) (xT eI 9) (@Prod.snd (xT eI 10) (xT eI 10) pg_0))))) 1472 = true := by decide +kernel
theorem lk_24 : xall eI (kR 0) 6 (@Prod.fst (xT eI 6) (xT eI 6) (@Prod.fst (xT eI 7) (xT eI 7) (@Prod.fst (xT eI 8) (xT eI 8) (@Prod.snd (xT eI 9) (xT eI 9) (@Prod.snd (xT eI 10) (xT eI 10) pg_0))))) 1536 = true := by decide +kernel
theorem lk_25 : xall eI (kR 0) 6 (@Prod.snd (xT eI 6) (xT eI 6) (@Prod.fst (xT eI 7) (xT eI 7) (@Prod.fst (xT eI 8) (xT eI 8) (@Prod.snd (xT eI 9) (xT eI 9) (@Prod.snd (xT eI 10) (xT eI 10) pg_0))))) 1600 = true := by decide +kernel
theorem lk_26 : xall eI (kR 0) 6 (@Prod.fst (xT eI 6) (xT eI 6) (@Prod.snd (xT eI 7) (xT eI 7) (@Prod.fst (xT eI 8) (xT eI 8) (@Prod.snd (xT eI 9) (xT eI 9) (@Prod.snd (xT eI 10) (xT eI 10) pg_0))))) 1664 = true := by decide +kernel
theorem lk_27 : xall eI (kR 0) 6 (@Prod.snd (xT eI 6) (xT eI 6) (@Prod.snd (xT eI 7) (xT eI 7) (@Prod.fst (xT eI 8) (xT eI 8) (@Prod.snd (xT eI 9) (xT eI 9) (@Prod.snd (xT eI 10) (xT eI 10) pg_0))))) 1728 = true := by decide +kernel
theorem lk_28 : xall eI (kR 0) 6 (@Prod.fst (xT eI 6) (xT eI 6) (@Prod.fst (xT eI 7) (xT eI 7) (@Prod.snd (xT eI 8) (xT eI 8) (@Prod.snd (xT eI 9) (xT eI 9) (@Prod.snd (xT eI 10) (xT eI 10) pg_0))))) 1792 = true := by decide +kernel
theorem lk_29 : xall eI (kR 0) 6 (@Prod.snd (xT eI 6) (xT eI 6) (@Prod.fst (xT eI 7) (xT eI 7) (@Prod.snd (xT eI 8) (xT eI 8) (@Prod.snd (xT eI 9) (xT eI 9) (@Prod.snd (xT eI 10) (xT eI 10) pg_0))))) 1856 = true := by decide +kernel
theorem lk_30 : xall eI (kR 0) 6 (@Prod.fst (xT eI 6) (xT eI 6) (@Prod.snd (xT eI 7) (xT eI 7) (@Prod.snd (xT eI 8) (xT eI 8) (@Prod.snd (xT eI 9) (xT eI 9) (@Prod.snd (xT eI 10) (xT eI 10) pg_0))))) 1920 = true := by decide +kernel
theorem lk_31 : xall eI (kR 0) 6 (@Prod.snd (xT eI 6) (xT eI 6) (@Prod.snd (xT eI 7) (xT eI 7) (@Prod.snd (xT eI 8) (xT eI 8) (@Prod.snd (xT eI 9) (xT eI 9) (@Prod.snd (xT eI 10) (xT eI 10) pg_0))))) 1984 = true := by decide +kernel
theorem lk : kY 0 pg_0 = true := (xall_2 (n := 10) (x := 0) (t := pg_0) (xall_2 (n := 9) (x := 0) (t := (@Prod.fst (xT eI 10) (xT eI 10) pg_0)) (xall_2 (n := 8) (x := 0) (t := (@Prod.fst (xT eI 9) (xT eI 9) (@Prod.fst (xT eI 10) (xT eI 10) pg_0))) (xall_2 (n := 7) (x := 0) (t := (@Prod.fst (xT eI 8) (xT eI 8) (@Prod.fst (xT eI 9) (xT eI 9) (@Prod.fst (xT eI 10) (xT eI 10) pg_0)))) (xall_2 (n := 6) (x := 0) (t := (@Prod.fst (xT eI 7) (xT eI 7) (@Prod.fst (xT eI 8) (xT eI 8) (@Prod.fst (xT eI 9) (xT eI 9) (@Prod.fst (xT eI 10) (xT eI 10) pg_0))))) lk_0 lk_1) (xall_2 (n := 6) (x := 128) (t := (@Prod.snd (xT eI 7) (xT eI 7) (@Prod.fst (xT eI 8) (xT eI 8) (@Prod.fst (xT eI 9) (xT eI 9) (@Prod.fst (xT eI 10) (xT eI 10) pg_0))))) lk_2 lk_3)) (xall_2 (n := 7) (x := 256) (t := (@Prod.snd (xT eI 8) (xT eI 8) (@Prod.fst (xT eI 9) (xT eI 9) (@Prod.fst (xT eI 10) (xT eI 10) pg_0)))) (xall_2 (n := 6) (x := 256) (t := (@Prod.fst (xT eI 7) (xT eI 7) (@Prod.snd (xT eI 8) (xT eI 8) (@Prod.fst (xT eI 9) (xT eI 9) (@Prod.fst (xT eI 10) (xT eI 10) pg_0))))) lk_4 lk_5) (xall_2 (n := 6) (x := 384) (t := (@Prod.snd (xT eI 7) (xT eI 7) (@Prod.snd (xT eI 8) (xT eI 8) (@Prod.fst (xT eI 9) (xT eI 9) (@Prod.fst (xT eI 10) (xT eI 10) pg_0))))) lk_6 lk_7))) (xall_2 (n := 8) (x := 512) (t := (@Prod.snd (xT eI 9) (xT eI 9) (@Prod.fst (xT eI 10) (xT eI 10) pg_0))) (xall_2 (n := 7) (x := 512) (t := (@Prod.fst (xT eI 8) (xT eI 8) (@Prod.snd (xT eI 9) (xT eI 9) (@Prod.fst (xT eI 10) (xT eI 10) pg_0)))) (xall_2 (n := 6) (x := 512) (t := (@Prod.fst (xT eI 7) (xT eI 7) (@Prod.fst (xT eI 8) (xT eI 8) (@Prod.snd (xT eI 9) (xT eI 9) (@Prod.fst (xT eI 10) (xT eI 10) pg_0))))) lk_8 lk_9) (xall_2 (n := 6) (x := 640) (t := (@Prod.snd (xT eI 7) (xT eI 7) (@Prod.fst (xT eI 8) (xT eI 8) (@Prod.snd (xT eI 9) (xT eI 9) (@Prod.fst (xT eI 10) (xT eI 10) pg_0))))) lk_10 lk_11)) (xall_2 (n := 7) (x := 768) (t := (@Prod.snd (xT eI 8) (xT eI 8) (@Prod.snd (xT eI 9) (xT eI 9) (@Prod.fst (xT eI 10) (xT eI 10) pg_0)))) (xall_2 (n := 6) (x := 768) (t := (@Prod.fst (xT eI 7) (xT eI 7) (@Prod.snd (xT eI 8) (xT eI 8) (@Prod.snd (xT eI 9) (xT eI 9) (@Prod.fst (xT eI 10) (xT eI 10) pg_0))))) lk_12 lk_13) (xall_2 (n := 6) (x := 896) (t := (@Prod.snd (xT eI 7) (xT eI 7) (@Prod.snd (xT eI 8) (xT eI 8) (@Prod.snd (xT eI 9) (xT eI 9) (@Prod.fst (xT eI 10) (xT eI 10) pg_0))))) lk_14 lk_15)))) (xall_2 (n := 9) (x := 1024) (t := (@Prod.snd (xT eI 10) (xT eI 10) pg_0)) (xall_2 (n := 8) (x := 1024) (t := (@Prod.fst (xT eI 9) (xT eI 9) (@Prod.snd (xT eI 10) (xT eI 10) pg_0))) (xall_2 (n := 7) (x := 1024) (t := (@Prod.fst (xT eI 8) (xT eI 8) (@Prod.fst (xT eI 9) (xT eI 9) (@Prod.snd (xT eI 10) (xT eI 10) pg_0)))) (xall_2 (n := 6) (x := 1024) (t := (@Prod.fst (xT eI 7) (xT eI 7) (@Prod.fst (xT eI 8) (xT eI 8) (@Prod.fst (xT eI 9) (xT eI 9) (@Prod.snd (xT eI 10) (xT eI 10) pg_0))))) lk_16 lk_17) (xall_2 (n := 6) (x := 1152) (t := (@Prod.snd (xT eI 7) (xT eI 7) (@Prod.fst (xT eI 8) (xT eI 8) (@Prod.fst (xT eI 9) (xT eI 9) (@Prod.snd (xT eI 10) (xT eI 10) pg_0))))) lk_18 lk_19)) (xall_2 (n := 7) (x := 1280) (t := (@Prod.snd (xT eI 8) (xT eI 8) (@Prod.fst (xT eI 9) (xT eI 9) (@Prod.snd (xT eI 10) (xT eI 10) pg_0)))) (xall_2 (n := 6) (x := 1280) (t := (@Prod.fst (xT eI 7) (xT eI 7) (@Prod.snd (xT eI 8) (xT eI 8) (@Prod.fst (xT eI 9) (xT eI 9) (@Prod.snd (xT eI 10) (xT eI 10) pg_0))))) lk_20 lk_21) (xall_2 (n := 6) (x := 1408) (t := (@Prod.snd (xT eI 7) (xT eI 7) (@Prod.snd (xT eI 8) (xT eI 8) (@Prod.fst (xT eI 9) (xT eI 9) (@Prod.snd (xT eI 10) (xT eI 10) pg_0))))) lk_22 lk_23))) (xall_2 (n := 8) (x := 1536) (t := (@Prod.snd (xT eI 9) (xT eI 9) (@Prod.snd (xT eI 10) (xT eI 10) pg_0))) (xall_2 (n := 7) (x := 1536) (t := (@Prod.fst (xT eI 8) (xT eI 8) (@Prod.snd (xT eI 9) (xT eI 9) (@Prod.snd (xT eI 10) (xT eI 10) pg_0)))) (xall_2 (n := 6) (x := 1536) (t := (@Prod.fst (xT eI 7) (xT eI 7) (@Prod.fst (xT eI 8) (xT eI 8) (@Prod.snd (xT eI 9) (xT eI 9) (@Prod.snd (xT eI 10) (xT eI 10) pg_0))))) lk_24 lk_25) (xall_2 (n := 6) (x := 1664) (t := (@Prod.snd (xT eI 7) (xT eI 7) (@Prod.fst (xT eI 8) (xT eI 8) (@Prod.snd (xT eI 9) (xT eI 9) (@Prod.snd (xT eI 10) (xT eI 10) pg_0))))) lk_26 lk_27)) (xall_2 (n := 7) (x := 1792) (t := (@Prod.snd (xT eI 8) (xT eI 8) (@Prod.snd (xT eI 9) (xT eI 9) (@Prod.snd (xT eI 10) (xT eI 10) pg_0)))) (xall_2 (n := 6) (x := 1792) (t := (@Prod.fst (xT eI 7) (xT eI 7) (@Prod.snd (xT eI 8) (xT eI 8) (@Prod.snd (xT eI 9) (xT eI 9) (@Prod.snd (xT eI 10) (xT eI 10) pg_0))))) lk_28 lk_29) (xall_2 (n := 6) (x := 1920) (t := (@Prod.snd (xT eI 7) (xT eI 7) (@Prod.snd (xT eI 8) (xT eI 8) (@Prod.snd (xT eI 9) (xT eI 9) (@Prod.snd (xT eI 10) (xT eI 10) pg_0))))) lk_30 lk_31)))))
theorem pk1_1 : kY 1 pg_1 = true := by decide +kernel
theorem pk1_2 : kY 2 pg_2 = true := by decide +kernel
theorem pk1_3 : kY 3 pg_3 = true := by decide +kernel
theorem pk4_0 : xall (xT eI 11) kY 2 ((pg_0, pg_1), (pg_2, pg_3)) 0 = true := xall_mk (n := 1) (x := 0) (xall_mk (n := 0) (x := 0) (a := pg_0) (b := pg_1) lk pk1_1) (xall_mk (n := 0) (x := 2) (a := pg_2) (b := pg_3) pk1_2 pk1_3)
theorem pk4_1 : xall (xT eI 11) kY 2 ((pg_4, pg_5), (pg_6, pg_7)) 4 = true := by decide +kernel
theorem pk4_2 : xall (xT eI 11) kY 2 ((pg_8, pg_9), (pg_10, pg_11)) 8 = true := by decide +kernel
theorem pk4_3 : xall (xT eI 11) kY 2 ((pg_12, pg_13), (pg_14, pg_15)) 12 = true := by decide +kernel
theorem pk4_4 : xall (xT eI 11) kY 2 ((pg_16, pg_17), (pg_18, pg_19)) 16 = true := by decide +kernel
theorem pk4_5 : xall (xT eI 11) kY 2 ((pg_20, pg_21), (pg_22, pg_23)) 20 = true := by decide +kernel
theorem pk4_6 : xall (xT eI 11) kY 2 ((pg_24, pg_25), (pg_26, pg_27)) 24 = true := by decide +kernel
theorem pk4_7 : xall (xT eI 11) kY 2 ((pg_28, pg_29), (pg_30, pg_31)) 28 = true := by decide +kernel
theorem pk4_8 : xall (xT eI 11) kY 2 ((pg_32, pg_33), (pg_34, pg_35)) 32 = true := by decide +kernel
theorem pk4_9 : xall (xT eI 11) kY 2 ((pg_36, pg_37), (pg_38, pg_39)) 36 = true := by decide +kernel
theorem pk4_10 : xall (xT eI 11) kY 2 ((pg_40, pg_41), (pg_42, pg_43)) 40 = true := by decide +kernel
theorem pk4_11 : xall (xT eI 11) kY 2 ((pg_44, pg_45), (pg_46, pg_47)) 44 = true := by decide +kernel
theorem pk4_12 : xall (xT eI 11) kY 2 ((pg_48, pg_49), (pg_50, pg_51)) 48 = true := by decide +kernel
theorem pk4_13 : xall (xT eI 11) kY 2 ((pg_52, pg_53), (pg_54, pg_55)) 52 = true := by decide +kernel
theorem pk4_14 : xall (xT eI 11) kY 2 ((pg_56, pg_57), (pg_58, pg_59)) 56 = true := by decide +kernel
theorem pk4_15 : xall (xT eI 11) kY 2 ((pg_60, pg_61), (pg_62, pg_63)) 60 = true := by decide +kernel
theorem pk4_16 : xall (xT eI 11) kY 2 ((pg_64, pg_65), (pg_66, pg_67)) 64 = true := by decide +kernel
theorem pk4_17 : xall (xT eI 11) kY 2 ((pg_68, pg_69), (pg_70, pg_71)) 68 = true := by decide +kernel
theorem pk4_18 : xall (xT eI 11) kY 2 ((pg_72, pg_73), (pg_74, pg_75)) 72 = true := by decide +kernel
theorem pk4_19 : xall (xT eI 11) kY 2 ((pg_76, pg_77), (pg_78, pg_79)) 76 = true := by decide +kernel
theorem pk4_20 : xall (xT eI 11) kY 2 ((pg_80, pg_81), (pg_82, pg_83)) 80 = true := by decide +kernel
theorem pk4_21 : xall (xT eI 11) kY 2 ((pg_84, pg_85), (pg_86, pg_87)) 84 = true := by decide +kernel
theorem pk4_22 : xall (xT eI 11) kY 2 ((pg_88, pg_89), (pg_90, pg_91)) 88 = true := by decide +kernel
theorem pk4_23 : xall (xT eI 11) kY 2 ((pg_92, pg_93), (pg_94, pg_95)) 92 = true := by decide +kernel
theorem pk4_24 : xall (xT eI 11) kY 2 ((pg_96, pg_97), (pg_98, pg_99)) 96 = true := by decide +kernel
theorem pk4_25 : xall (xT eI 11) kY 2 ((pg_100, pg_101), (pg_102, pg_103)) 100 = true := by decide +kernel
theorem pk4_26 : xall (xT eI 11) kY 2 ((pg_104, pg_105), (pg_106, pg_107)) 104 = true := by decide +kernel
theorem pk4_27 : xall (xT eI 11) kY 2 ((pg_108, pg_109), (pg_110, pg_111)) 108 = true := by decide +kernel
theorem pk4_28 : xall (xT eI 11) kY 2 ((pg_112, pg_113), (pg_114, pg_115)) 112 = true := by decide +kernel
theorem pk4_29 : xall (xT eI 11) kY 2 ((pg_116, pg_117), (pg_118, pg_119)) 116 = true := by decide +kernel
theorem pk4_30 : xall (xT eI 11) kY 2 ((pg_120, pg_121), (pg_122, pg_123)) 120 = true := by decide +kernel
theorem pk4_31 : xall (xT eI 11) kY 2 ((pg_124, pg_125), (pg_126, pg_127)) 124 = true := by decide +kernel
theorem pk4_32 : xall (xT eI 11) kY 2 ((pg_128, pg_129), (pg_130, pg_131)) 128 = true := by decide +kernel
theorem pk4_33 : xall (xT eI 11) kY 2 ((pg_132, pg_133), (pg_134, pg_135)) 132 = true := by decide +kernel
theorem pk4_34 : xall (xT eI 11) kY 2 ((pg_136, pg_137), (pg_138, pg_139)) 136 = true := by decide +kernel
theorem pk4_35 : xall (xT eI 11) kY 2 ((pg_140, pg_141), (pg_142, pg_143)) 140 = true := by decide +kernel
theorem pk4_36 : xall (xT eI 11) kY 2 ((pg_144, pg_145), (pg_146, pg_147)) 144 = true := by decide +kernel
theorem pk4_37 : xall (xT eI 11) kY 2 ((pg_148, pg_149), (pg_150, pg_151)) 148 = true := by decide +kernel
theorem pk4_38 : xall (xT eI 11) kY 2 ((pg_152, pg_153), (pg_154, pg_155)) 152 = true := by decide +kernel
theorem pk4_39 : xall (xT eI 11) kY 2 ((pg_156, pg_157), (pg_158, pg_159)) 156 = true := by decide +kernel
theorem pk4_40 : xall (xT eI 11) kY 2 ((pg_160, pg_161), (pg_162, pg_163)) 160 = true := by decide +kernel
theorem pk4_41 : xall (xT eI 11) kY 2 ((pg_164, pg_165), (pg_166, pg_167)) 164 = true := by decide +kernel
theorem pk4_42 : xall (xT eI 11) kY 2 ((pg_168, pg_169), (pg_170, pg_171)) 168 = true := by decide +kernel
theorem pk4_43 : xall (xT eI 11) kY 2 ((pg_172, pg_173), (pg_174, pg_175)) 172 = true := by decide +kernel
theorem pk4_44 : xall (xT eI 11) kY 2 ((pg_176, pg_177), (pg_178, pg_179)) 176 = true := by decide +kernel
theorem pk4_45 : xall (xT eI 11) kY 2 ((pg_180, pg_181), (pg_182, pg_183)) 180 = true := by decide +kernel
theorem pk4_46 : xall (xT eI 11) kY 2 ((pg_184, pg_185), (pg_186, pg_187)) 184 = true := by decide +kernel
theorem pk4_47 : xall (xT eI 11) kY 2 ((pg_188, pg_189), (pg_190, pg_191)) 188 = true := by decide +kernel
theorem pk4_48 : xall (xT eI 11) kY 2 ((pg_192, pg_193), (pg_194, pg_195)) 192 = true := by decide +kernel
theorem pk4_49 : xall (xT eI 11) kY 2 ((pg_196, pg_197), (pg_198, pg_199)) 196 = true := by decide +kernel
theorem pk4_50 : xall (xT eI 11) kY 2 ((pg_200, pg_201), (pg_202, pg_203)) 200 = true := by decide +kernel
theorem pk4_51 : xall (xT eI 11) kY 2 ((pg_204, pg_205), (pg_206, pg_207)) 204 = true := by decide +kernel
theorem pk4_52 : xall (xT eI 11) kY 2 ((pg_208, pg_209), (pg_210, pg_211)) 208 = true := by decide +kernel
theorem pk4_53 : xall (xT eI 11) kY 2 ((pg_212, pg_213), (pg_214, pg_215)) 212 = true := by decide +kernel
theorem pk4_54 : xall (xT eI 11) kY 2 ((pg_216, pg_217), (pg_218, pg_219)) 216 = true := by decide +kernel
theorem pk4_55 : xall (xT eI 11) kY 2 ((pg_220, pg_221), (pg_222, pg_223)) 220 = true := by decide +kernel
theorem pk4_56 : xall (xT eI 11) kY 2 ((pg_224, pg_225), (pg_226, pg_227)) 224 = true := by decide +kernel
theorem pk4_57 : xall (xT eI 11) kY 2 ((pg_228, pg_229), (pg_230, pg_231)) 228 = true := by decide +kernel
theorem pk4_58 : xall (xT eI 11) kY 2 ((pg_232, pg_233), (pg_234, pg_235)) 232 = true := by decide +kernel
theorem pk4_59 : xall (xT eI 11) kY 2 ((pg_236, pg_237), (pg_238, pg_239)) 236 = true := by decide +kernel
theorem pk4_60 : xall (xT eI 11) kY 2 ((pg_240, pg_241), (pg_242, pg_243)) 240 = true := by decide +kernel
theorem pk4_61 : xall (xT eI 11) kY 2 ((pg_244, pg_245), (pg_246, pg_247)) 244 = true := by decide +kernel
theorem pk4_62 : xall (xT eI 11) kY 2 ((pg_248, pg_249), (pg_250, pg_251)) 248 = true := by decide +kernel
theorem pk4_63 : xall (xT eI 11) kY 2 ((pg_252, pg_253), (pg_254, pg_255)) 252 = true := by decide +kernel
theorem pk4_64 : xall (xT eI 11) kY 2 ((pg_256, pg_257), (pg_258, pg_259)) 256 = true := by decide +kernel
theorem pk4_65 : xall (xT eI 11) kY 2 ((pg_260, pg_261), (pg_262, pg_263)) 260 = true := by decide +kernel
theorem pk4_66 : xall (xT eI 11) kY 2 ((pg_264, pg_265), (pg_266, pg_267)) 264 = true := by decide +kernel
theorem pk4_67 : xall (xT eI 11) kY 2 ((pg_268, pg_269), y1) 268 = true := by decide +kernel
theorem pk_0 : xall (xT eI 11) kY 5 pgs_0 0 = true := (xall_mk (n := 4) (x := 0) (xall_mk (n := 3) (x := 0) (xall_mk (n := 2) (x := 0) pk4_0 pk4_1) (xall_mk (n := 2) (x := 8) pk4_2 pk4_3)) (xall_mk (n := 3) (x := 16) (xall_mk (n := 2) (x := 16) pk4_4 pk4_5) (xall_mk (n := 2) (x := 24) pk4_6 pk4_7)))
theorem pk_1 : xall (xT eI 11) kY 5 pgs_1 32 = true := (xall_mk (n := 4) (x := 32) (xall_mk (n := 3) (x := 32) (xall_mk (n := 2) (x := 32) pk4_8 pk4_9) (xall_mk (n := 2) (x := 40) pk4_10 pk4_11)) (xall_mk (n := 3) (x := 48) (xall_mk (n := 2) (x := 48) pk4_12 pk4_13) (xall_mk (n := 2) (x := 56) pk4_14 pk4_15)))
theorem pk_2 : xall (xT eI 11) kY 5 pgs_2 64 = true := (xall_mk (n := 4) (x := 64) (xall_mk (n := 3) (x := 64) (xall_mk (n := 2) (x := 64) pk4_16 pk4_17) (xall_mk (n := 2) (x := 72) pk4_18 pk4_19)) (xall_mk (n := 3) (x := 80) (xall_mk (n := 2) (x := 80) pk4_20 pk4_21) (xall_mk (n := 2) (x := 88) pk4_22 pk4_23)))
theorem pk_3 : xall (xT eI 11) kY 5 pgs_3 96 = true := (xall_mk (n := 4) (x := 96) (xall_mk (n := 3) (x := 96) (xall_mk (n := 2) (x := 96) pk4_24 pk4_25) (xall_mk (n := 2) (x := 104) pk4_26 pk4_27)) (xall_mk (n := 3) (x := 112) (xall_mk (n := 2) (x := 112) pk4_28 pk4_29) (xall_mk (n := 2) (x := 120) pk4_30 pk4_31)))
theorem pk_4 : xall (xT eI 11) kY 5 pgs_4 128 = true := (xall_mk (n := 4) (x := 128) (xall_mk (n := 3) (x := 128) (xall_mk (n := 2) (x := 128) pk4_32 pk4_33) (xall_mk (n := 2) (x := 136) pk4_34 pk4_35)) (xall_mk (n := 3) (x := 144) (xall_mk (n := 2) (x := 144) pk4_36 pk4_37) (xall_mk (n := 2) (x := 152) pk4_38 pk4_39)))
theorem pk_5 : xall (xT eI 11) kY 5 pgs_5 160 = true := (xall_mk (n := 4) (x := 160) (xall_mk (n := 3) (x := 160) (xall_mk (n := 2) (x := 160) pk4_40 pk4_41) (xall_mk (n := 2) (x := 168) pk4_42 pk4_43)) (xall_mk (n := 3) (x := 176) (xall_mk (n := 2) (x := 176) pk4_44 pk4_45) (xall_mk (n := 2) (x := 184) pk4_46 pk4_47)))
theorem pk_6 : xall (xT eI 11) kY 5 pgs_6 192 = true := (xall_mk (n := 4) (x := 192) (xall_mk (n := 3) (x := 192) (xall_mk (n := 2) (x := 192) pk4_48 pk4_49) (xall_mk (n := 2) (x := 200) pk4_50 pk4_51)) (xall_mk (n := 3) (x := 208) (xall_mk (n := 2) (x := 208) pk4_52 pk4_53) (xall_mk (n := 2) (x := 216) pk4_54 pk4_55)))
theorem pk_7 : xall (xT eI 11) kY 5 pgs_7 224 = true := (xall_mk (n := 4) (x := 224) (xall_mk (n := 3) (x := 224) (xall_mk (n := 2) (x := 224) pk4_56 pk4_57) (xall_mk (n := 2) (x := 232) pk4_58 pk4_59)) (xall_mk (n := 3) (x := 240) (xall_mk (n := 2) (x := 240) pk4_60 pk4_61) (xall_mk (n := 2) (x := 248) pk4_62 pk4_63)))
theorem pk_y4 : xall (xT eI 11) kY 4 y4 272 = true := by decide +kernel
theorem pk_8 : xall (xT eI 11) kY 5 pgs_8 256 = true := (xall_mk (n := 4) (x := 256) (xall_mk (n := 3) (x := 256) (xall_mk (n := 2) (x := 256) pk4_64 pk4_65) (xall_mk (n := 2) (x := 264) pk4_66 pk4_67)) pk_y4)
theorem pk_9 : xall (xT eI 11) kY 5 pgs_9 288 = true := by decide +kernel
theorem pk_10 : xall (xT eI 11) kY 5 pgs_10 320 = true := by decide +kernel
theorem pk_11 : xall (xT eI 11) kY 5 pgs_11 352 = true := by decide +kernel
theorem pk_12 : xall (xT eI 11) kY 5 pgs_12 384 = true := by decide +kernel
theorem pk_13 : xall (xT eI 11) kY 5 pgs_13 416 = true := by decide +kernel
theorem pk_14 : xall (xT eI 11) kY 5 pgs_14 448 = true := by decide +kernel
theorem pk_15 : xall (xT eI 11) kY 5 pgs_15 480 = true := by decide +kernel
theorem pk_all : xall (xT eI 11) kY 9 pgs 0 = true := (xall_mk (n := 8) (x := 0) (xall_mk (n := 7) (x := 0) (xall_mk (n := 6) (x := 0) (xall_mk (n := 5) (x := 0) pk_0 pk_1) (xall_mk (n := 5) (x := 64) pk_2 pk_3)) (xall_mk (n := 6) (x := 128) (xall_mk (n := 5) (x := 128) pk_4 pk_5) (xall_mk (n := 5) (x := 192) pk_6 pk_7))) (xall_mk (n := 7) (x := 256) (xall_mk (n := 6) (x := 256) (xall_mk (n := 5) (x := 256) pk_8 pk_9) (xall_mk (n := 5) (x := 320) pk_10 pk_11)) (xall_mk (n := 6) (x := 384) (xall_mk (n := 5) (x := 384) pk_12 pk_13) (xall_mk (n := 5) (x := 448) pk_14 pk_15))))
theorem isPr_no {y : Nat} (h : isPr y = false) : y < 265 ∨ y = 270 := by
  unfold isPr at h
  rcases Bool.and_eq_false_iff.mp h with h | h
  · exact Or.inl (Nat.lt_of_not_le fun q => by rw [Nat.ble_eq_true_of_le q] at h; cases h)
  · exact Or.inr (Nat.eq_of_beq_eq_true (by cases hb : Nat.beq y 270 with
      | true => rfl
      | false => rw [hb] at h; cases h))
theorem pk_ok : ∀ y, isPr y = false → e_Ok opT (xget (xT eI 11) 9 pgs y) y := by
  intro y hy
  have hy := isPr_no hy
  have h := xall_get 9 pgs 0 y (by omega) pk_all
  rw [Nat.zero_add] at h
  exact e_Ok_of h
theorem pk_plain : (List.range 265).all (fun y => plainName (nm y).cls) = true := by decide +kernel
theorem pk_plain2 : plainName (nm 270).cls = true := by decide +kernel
theorem pk_pl : ∀ y, isPr y = false → plainName (nm y).cls = true := fun y hy => (isPr_no hy).elim (fun q => List.all_eq_true.mp pk_plain y (List.mem_range.mpr q)) (fun q => by rw [q]; exact pk_plain2)
theorem pk_f1 : nm 265 = yJ7_fill_53178 ∧ cb 265 = cJ7_fill_53178 ∧ ml 265 = 4 ∧ rt 265 = none ∧ mh 265 = [] := by decide +kernel
theorem pk_f2 : nm 266 = yJ7_fill_d0a16 ∧ cb 266 = cJ7_fill_d0a16 ∧ ml 266 = 5 ∧ rt 266 = none ∧ mh 266 = [] := by decide +kernel
theorem pk_f3 : nm 267 = yJ7_fill_031fb ∧ cb 267 = cJ7_fill_031fb ∧ ml 267 = 4 ∧ rt 267 = none ∧ mh 267 = [] := by decide +kernel
theorem pk_ws {y n : Nat} {x : MethodName} {c : ByteArray} {r : Option FieldType} (h : nm y = x ∧ cb y = c ∧ ml y = n ∧ rt y = r ∧ mh y = []) : nm y = x ∧ e_ws y = Cond.code x c n r :: GW := by
  obtain ⟨h1, h2, h3, h4, h5⟩ := h
  refine ⟨h1, ?_⟩
  unfold e_ws
  rw [if_pos h5, h1, h2, h3, h4]
