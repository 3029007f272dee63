/-! ===== written by program (wip/engine2/gen3.py): plain instructions ===== -/
theorem s_bipush {y pc a b c9 : Nat} (ha : a < 4294967296) (hv : (Int8.ofInt ((b : Int) - 128)).toInt32 = nI a) (hd : decode (cb y) pc = .ok (.bipush ((b : Int) - 128), 2)) : e_P y pc (f_ipush 2 a b c9) := by
  intro G B M d out E g r N hpc hf
  obtain ⟨p, l, e, R, s, m, args, below, meth, c, Q, c0, s0⟩ := M
  obtain ⟨hx, hb, hml, hown, hts, hX, hG, hlk, hin, hsh, hroom, hfr, htr, htab, hscr⟩ := N
  obtain ⟨pc', lo, st, h⟩ := g
  obtain rfl : pc' = pc := hpc
  cases hf
  refine ⟨_, rfl, fun hcF hsF k => ?_⟩
  intro H ls locs cells slots hH hl hc hs
  refine lv_bipush hx hb hd hv ?_
  rw [← hG.2.1 a ha]
  exact k H ls locs cells slots hH hl hc hs
theorem s_sipush {y pc a b c9 : Nat} (ha : a < 4294967296) (hv : (Int16.ofInt ((b : Int) - 32768)).toInt32 = nI a) (hd : decode (cb y) pc = .ok (.sipush ((b : Int) - 32768), 3)) : e_P y pc (f_ipush 3 a b c9) := by
  intro G B M d out E g r N hpc hf
  obtain ⟨p, l, e, R, s, m, args, below, meth, c, Q, c0, s0⟩ := M
  obtain ⟨hx, hb, hml, hown, hts, hX, hG, hlk, hin, hsh, hroom, hfr, htr, htab, hscr⟩ := N
  obtain ⟨pc', lo, st, h⟩ := g
  obtain rfl : pc' = pc := hpc
  cases hf
  refine ⟨_, rfl, fun hcF hsF k => ?_⟩
  intro H ls locs cells slots hH hl hc hs
  refine lv_sipush hx hb hd hv ?_
  rw [← hG.2.1 a ha]
  exact k H ls locs cells slots hH hl hc hs
theorem s_ldc {y pc a b c9 : Nat} (ha : a < 4294967296) (hw : Cond.constant (nm y).cls b (nI a) ∈ GW) (hd : decode (cb y) pc = .ok (.ldc b, 2)) : e_P y pc (f_ipush 2 a b c9) := by
  intro G B M d out E g r N hpc hf
  obtain ⟨p, l, e, R, s, m, args, below, meth, c, Q, c0, s0⟩ := M
  obtain ⟨hx, hb, hml, hown, hts, hX, hG, hlk, hin, hsh, hroom, hfr, htr, htab, hscr⟩ := N
  obtain ⟨pc', lo, st, h⟩ := g
  obtain rfl : pc' = pc := hpc
  cases hf
  refine ⟨_, rfl, fun hcF hsF k => ?_⟩
  intro H ls locs cells slots hH hl hc hs
  refine lv_ldc hx hb hown (hts _ hw) hd ?_
  rw [← hG.2.1 a ha]
  exact k H ls locs cells slots hH hl hc hs
theorem s_ldcw {y pc a b c9 : Nat} (ha : a < 4294967296) (hw : Cond.constant (nm y).cls b (nI a) ∈ GW) (hd : decode (cb y) pc = .ok (.ldc_w b, 3)) : e_P y pc (f_ipush 3 a b c9) := by
  intro G B M d out E g r N hpc hf
  obtain ⟨p, l, e, R, s, m, args, below, meth, c, Q, c0, s0⟩ := M
  obtain ⟨hx, hb, hml, hown, hts, hX, hG, hlk, hin, hsh, hroom, hfr, htr, htab, hscr⟩ := N
  obtain ⟨pc', lo, st, h⟩ := g
  obtain rfl : pc' = pc := hpc
  cases hf
  refine ⟨_, rfl, fun hcF hsF k => ?_⟩
  intro H ls locs cells slots hH hl hc hs
  refine lv_ldcw hx hb hown (hts _ hw) hd ?_
  rw [← hG.2.1 a ha]
  exact k H ls locs cells slots hH hl hc hs
theorem s_lconst {y pc a b c9 : Nat} {q : Fin 2} (hv : Int64.ofNat (q : Nat) = lN a) (hd : decode (cb y) pc = .ok (.lconst q, 1)) : e_P y pc (f_lpush 1 a b c9) := by
  intro G B M d out E g r N hpc hf
  obtain ⟨p, l, e, R, s, m, args, below, meth, c, Q, c0, s0⟩ := M
  obtain ⟨hx, hb, hml, hown, hts, hX, hG, hlk, hin, hsh, hroom, hfr, htr, htab, hscr⟩ := N
  obtain ⟨pc', lo, st, h⟩ := g
  obtain rfl : pc' = pc := hpc
  cases hf
  refine ⟨_, rfl, fun hcF hsF k => ?_⟩
  intro H ls locs cells slots hH hl hc hs
  refine lv_lconst hx hb hd hv ?_
  exact k H ls locs cells slots hH hl hc hs
theorem s_ldc2 {y pc a b c9 : Nat} (hw : Cond.constantLong (nm y).cls b (lN a) ∈ GW) (hd : decode (cb y) pc = .ok (.ldc2_w b, 3)) : e_P y pc (f_lpush 3 a b c9) := by
  intro G B M d out E g r N hpc hf
  obtain ⟨p, l, e, R, s, m, args, below, meth, c, Q, c0, s0⟩ := M
  obtain ⟨hx, hb, hml, hown, hts, hX, hG, hlk, hin, hsh, hroom, hfr, htr, htab, hscr⟩ := N
  obtain ⟨pc', lo, st, h⟩ := g
  obtain rfl : pc' = pc := hpc
  cases hf
  refine ⟨_, rfl, fun hcF hsF k => ?_⟩
  intro H ls locs cells slots hH hl hc hs
  refine lv_ldc2 hx hb hown (hts _ hw) hd ?_
  exact k H ls locs cells slots hH hl hc hs
theorem s_ldcs {y pc a b c9 : Nat} {tx : String} (ha : a = 4097 + c9) (hq : e_strs[c9]? = some ((nm y).cls, b, tx)) (hd : decode (cb y) pc = .ok (.ldc b, 2)) : e_P y pc (f_rpush 2 a b c9) := by
  intro G B M d out E g r N hpc hf
  obtain ⟨p, l, e, R, s, m, args, below, meth, c, Q, c0, s0⟩ := M
  obtain ⟨hx, hb, hml, hown, hts, hX, hG, hlk, hin, hsh, hroom, hfr, htr, htab, hscr⟩ := N
  obtain ⟨pc', lo, st, h⟩ := g
  obtain rfl : pc' = pc := hpc
  cases hf
  refine ⟨_, rfl, fun hcF hsF k => ?_⟩
  intro H ls locs cells slots hH hl hc hs
  refine va_ldcS hx hb hown (hX.2.2.2.2.2.1 c9 _ hq) hd ?_
  subst ha
  exact k H ls locs cells slots hH hl hc hs
theorem i_iload {n a b c9 : Nat} {E : eE} {B : eB} {pc : Nat} {lo : List (Nat × eV)} {st : List eV} {h : eH} {r : eG ⊕ eO} (hf : f_iload n a b c9 E B (pc, lo, st, h) = some r) : ∃ x, e_lk lo a = some (.inl x) ∧ r = .inl (pc + n, lo, .inl x :: st, h) := by
  unfold f_iload at hf
  dsimp only at hf
  split at hf
  · cases hf
    exact ⟨_, by assumption, rfl⟩
  · cases hf
theorem s_iload_n {y pc a b c9 : Nat} {q : Fin 4} (hq : (q : Nat) = a) (hd : decode (cb y) pc = .ok (.iload_n q, 1)) : e_P y pc (f_iload 1 a b c9) := by
  intro G B M d out E g r N hpc hf
  obtain ⟨p, l, e, R, s, m, args, below, meth, c, Q, c0, s0⟩ := M
  obtain ⟨hx, hb, hml, hown, hts, hX, hG, hlk, hin, hsh, hroom, hfr, htr, htab, hscr⟩ := N
  obtain ⟨pc', lo, st, h⟩ := g
  obtain rfl : pc' = pc := hpc
  obtain ⟨x, hlk1, rfl⟩ := i_iload hf
  refine ⟨_, rfl, fun hcF hsF k => ?_⟩
  intro H ls locs cells slots hH hl hc hs
  obtain ⟨k1, hk1⟩ := cLo_lk (G := G) hlk1
  refine lv_iload_n hx hb hd hq (lv_at hl k1 hk1) ?_
  exact k H ls locs cells slots hH hl hc hs
theorem s_iload {y pc a b c9 : Nat} (hd : decode (cb y) pc = .ok (.iload a, 2)) : e_P y pc (f_iload 2 a b c9) := by
  intro G B M d out E g r N hpc hf
  obtain ⟨p, l, e, R, s, m, args, below, meth, c, Q, c0, s0⟩ := M
  obtain ⟨hx, hb, hml, hown, hts, hX, hG, hlk, hin, hsh, hroom, hfr, htr, htab, hscr⟩ := N
  obtain ⟨pc', lo, st, h⟩ := g
  obtain rfl : pc' = pc := hpc
  obtain ⟨x, hlk1, rfl⟩ := i_iload hf
  refine ⟨_, rfl, fun hcF hsF k => ?_⟩
  intro H ls locs cells slots hH hl hc hs
  obtain ⟨k1, hk1⟩ := cLo_lk (G := G) hlk1
  refine lv_iload hx hb hd (lv_at hl k1 hk1) ?_
  exact k H ls locs cells slots hH hl hc hs
theorem i_lload {n a b c9 : Nat} {E : eE} {B : eB} {pc : Nat} {lo : List (Nat × eV)} {st : List eV} {h : eH} {r : eG ⊕ eO} (hf : f_lload n a b c9 E B (pc, lo, st, h) = some r) : ∃ x, e_lk lo a = some (.inr (.inl x)) ∧ r = .inl (pc + n, lo, .inr (.inl x) :: st, h) := by
  unfold f_lload at hf
  dsimp only at hf
  split at hf
  · cases hf
    exact ⟨_, by assumption, rfl⟩
  · cases hf
theorem s_lload_n {y pc a b c9 : Nat} {q : Fin 4} (hq : (q : Nat) = a) (hd : decode (cb y) pc = .ok (.lload_n q, 1)) : e_P y pc (f_lload 1 a b c9) := by
  intro G B M d out E g r N hpc hf
  obtain ⟨p, l, e, R, s, m, args, below, meth, c, Q, c0, s0⟩ := M
  obtain ⟨hx, hb, hml, hown, hts, hX, hG, hlk, hin, hsh, hroom, hfr, htr, htab, hscr⟩ := N
  obtain ⟨pc', lo, st, h⟩ := g
  obtain rfl : pc' = pc := hpc
  obtain ⟨x, hlk1, rfl⟩ := i_lload hf
  refine ⟨_, rfl, fun hcF hsF k => ?_⟩
  intro H ls locs cells slots hH hl hc hs
  obtain ⟨k1, hk1⟩ := cLo_lk (G := G) hlk1
  refine lv_lload_n hx hb hd hq (lv_at hl k1 hk1) ?_
  exact k H ls locs cells slots hH hl hc hs
theorem s_lload {y pc a b c9 : Nat} (hd : decode (cb y) pc = .ok (.lload a, 2)) : e_P y pc (f_lload 2 a b c9) := by
  intro G B M d out E g r N hpc hf
  obtain ⟨p, l, e, R, s, m, args, below, meth, c, Q, c0, s0⟩ := M
  obtain ⟨hx, hb, hml, hown, hts, hX, hG, hlk, hin, hsh, hroom, hfr, htr, htab, hscr⟩ := N
  obtain ⟨pc', lo, st, h⟩ := g
  obtain rfl : pc' = pc := hpc
  obtain ⟨x, hlk1, rfl⟩ := i_lload hf
  refine ⟨_, rfl, fun hcF hsF k => ?_⟩
  intro H ls locs cells slots hH hl hc hs
  obtain ⟨k1, hk1⟩ := cLo_lk (G := G) hlk1
  refine lv_lload hx hb hd (lv_at hl k1 hk1) ?_
  exact k H ls locs cells slots hH hl hc hs
theorem i_aload {n a b c9 : Nat} {E : eE} {B : eB} {pc : Nat} {lo : List (Nat × eV)} {st : List eV} {h : eH} {r : eG ⊕ eO} (hf : f_aload n a b c9 E B (pc, lo, st, h) = some r) : ∃ x, e_lk lo a = some (.inr (.inr (x + 1))) ∧ r = .inl (pc + n, lo, .inr (.inr (x + 1)) :: st, h) := by
  unfold f_aload at hf
  dsimp only at hf
  split at hf
  · cases hf
    exact ⟨_, by assumption, rfl⟩
  · cases hf
theorem s_aload_n {y pc a b c9 : Nat} {q : Fin 4} (hq : (q : Nat) = a) (hd : decode (cb y) pc = .ok (.aload_n q, 1)) : e_P y pc (f_aload 1 a b c9) := by
  intro G B M d out E g r N hpc hf
  obtain ⟨p, l, e, R, s, m, args, below, meth, c, Q, c0, s0⟩ := M
  obtain ⟨hx, hb, hml, hown, hts, hX, hG, hlk, hin, hsh, hroom, hfr, htr, htab, hscr⟩ := N
  obtain ⟨pc', lo, st, h⟩ := g
  obtain rfl : pc' = pc := hpc
  obtain ⟨x, hlk1, rfl⟩ := i_aload hf
  refine ⟨_, rfl, fun hcF hsF k => ?_⟩
  intro H ls locs cells slots hH hl hc hs
  obtain ⟨k1, hk1⟩ := cLo_lk (G := G) hlk1
  refine lv_aload_n hx hb hd hq (lv_at hl k1 hk1) ?_
  exact k H ls locs cells slots hH hl hc hs
theorem s_aload {y pc a b c9 : Nat} (hd : decode (cb y) pc = .ok (.aload a, 2)) : e_P y pc (f_aload 2 a b c9) := by
  intro G B M d out E g r N hpc hf
  obtain ⟨p, l, e, R, s, m, args, below, meth, c, Q, c0, s0⟩ := M
  obtain ⟨hx, hb, hml, hown, hts, hX, hG, hlk, hin, hsh, hroom, hfr, htr, htab, hscr⟩ := N
  obtain ⟨pc', lo, st, h⟩ := g
  obtain rfl : pc' = pc := hpc
  obtain ⟨x, hlk1, rfl⟩ := i_aload hf
  refine ⟨_, rfl, fun hcF hsF k => ?_⟩
  intro H ls locs cells slots hH hl hc hs
  obtain ⟨k1, hk1⟩ := cLo_lk (G := G) hlk1
  refine lv_aload hx hb hd (lv_at hl k1 hk1) ?_
  exact k H ls locs cells slots hH hl hc hs
theorem i_istore {n a b c9 : Nat} {E : eE} {B : eB} {pc : Nat} {lo : List (Nat × eV)} {st : List eV} {h : eH} {r : eG ⊕ eO} (hf : f_istore n a b c9 E B (pc, lo, st, h) = some r) : ∃ x st2, st = .inl x :: st2 ∧ r = .inl (pc + n, e_st1 lo a (.inl x), st2, h) := by
  unfold f_istore at hf
  split at hf
  · rename_i heq
    cases heq
    cases hf
    exact ⟨_, _, rfl, rfl⟩
  · cases hf
theorem s_istore_n {y pc a b c9 : Nat} {q : Fin 4} (hq : (q : Nat) = a) (hn : a < ml y) (hd : decode (cb y) pc = .ok (.istore_n q, 1)) : e_P y pc (f_istore 1 a b c9) := by
  intro G B M d out E g r N hpc hf
  obtain ⟨p, l, e, R, s, m, args, below, meth, c, Q, c0, s0⟩ := M
  obtain ⟨hx, hb, hml, hown, hts, hX, hG, hlk, hin, hsh, hroom, hfr, htr, htab, hscr⟩ := N
  obtain ⟨pc', lo, st, h⟩ := g
  obtain rfl : pc' = pc := hpc
  obtain ⟨x, st2, rfl, rfl⟩ := i_istore hf
  refine ⟨_, rfl, fun hcF hsF k => ?_⟩
  intro H ls locs cells slots hH hl hc hs
  refine lv_istore_n hx hb hd hq hl hn (cLo_st1 G lo a (.inl x)).symm (fun ls2 hl2 => ?_)
  exact k H ls2 locs cells slots hH hl2 hc hs
theorem s_istore {y pc a b c9 : Nat} (hn : a < ml y) (hd : decode (cb y) pc = .ok (.istore a, 2)) : e_P y pc (f_istore 2 a b c9) := by
  intro G B M d out E g r N hpc hf
  obtain ⟨p, l, e, R, s, m, args, below, meth, c, Q, c0, s0⟩ := M
  obtain ⟨hx, hb, hml, hown, hts, hX, hG, hlk, hin, hsh, hroom, hfr, htr, htab, hscr⟩ := N
  obtain ⟨pc', lo, st, h⟩ := g
  obtain rfl : pc' = pc := hpc
  obtain ⟨x, st2, rfl, rfl⟩ := i_istore hf
  refine ⟨_, rfl, fun hcF hsF k => ?_⟩
  intro H ls locs cells slots hH hl hc hs
  refine lv_istore hx hb hd hl hn (cLo_st1 G lo a (.inl x)).symm (fun ls2 hl2 => ?_)
  exact k H ls2 locs cells slots hH hl2 hc hs
theorem i_lstore {n a b c9 : Nat} {E : eE} {B : eB} {pc : Nat} {lo : List (Nat × eV)} {st : List eV} {h : eH} {r : eG ⊕ eO} (hf : f_lstore n a b c9 E B (pc, lo, st, h) = some r) : ∃ x st2, st = .inr (.inl x) :: st2 ∧ r = .inl (pc + n, e_st2 lo a (.inr (.inl x)), st2, h) := by
  unfold f_lstore at hf
  split at hf
  · rename_i heq
    cases heq
    cases hf
    exact ⟨_, _, rfl, rfl⟩
  · cases hf
theorem s_lstore_n {y pc a b c9 : Nat} {q : Fin 4} (hq : (q : Nat) = a) (hn : a + 1 < ml y) (hd : decode (cb y) pc = .ok (.lstore_n q, 1)) : e_P y pc (f_lstore 1 a b c9) := by
  intro G B M d out E g r N hpc hf
  obtain ⟨p, l, e, R, s, m, args, below, meth, c, Q, c0, s0⟩ := M
  obtain ⟨hx, hb, hml, hown, hts, hX, hG, hlk, hin, hsh, hroom, hfr, htr, htab, hscr⟩ := N
  obtain ⟨pc', lo, st, h⟩ := g
  obtain rfl : pc' = pc := hpc
  obtain ⟨x, st2, rfl, rfl⟩ := i_lstore hf
  refine ⟨_, rfl, fun hcF hsF k => ?_⟩
  intro H ls locs cells slots hH hl hc hs
  refine lv_lstore_n hx hb hd hq hl hn (cLo_st2 G lo a (.inr (.inl x))).symm (fun ls2 hl2 => ?_)
  exact k H ls2 locs cells slots hH hl2 hc hs
theorem s_lstore {y pc a b c9 : Nat} (hn : a + 1 < ml y) (hd : decode (cb y) pc = .ok (.lstore a, 2)) : e_P y pc (f_lstore 2 a b c9) := by
  intro G B M d out E g r N hpc hf
  obtain ⟨p, l, e, R, s, m, args, below, meth, c, Q, c0, s0⟩ := M
  obtain ⟨hx, hb, hml, hown, hts, hX, hG, hlk, hin, hsh, hroom, hfr, htr, htab, hscr⟩ := N
  obtain ⟨pc', lo, st, h⟩ := g
  obtain rfl : pc' = pc := hpc
  obtain ⟨x, st2, rfl, rfl⟩ := i_lstore hf
  refine ⟨_, rfl, fun hcF hsF k => ?_⟩
  intro H ls locs cells slots hH hl hc hs
  refine lv_lstore hx hb hd hl hn (cLo_st2 G lo a (.inr (.inl x))).symm (fun ls2 hl2 => ?_)
  exact k H ls2 locs cells slots hH hl2 hc hs
theorem i_astore {n a b c9 : Nat} {E : eE} {B : eB} {pc : Nat} {lo : List (Nat × eV)} {st : List eV} {h : eH} {r : eG ⊕ eO} (hf : f_astore n a b c9 E B (pc, lo, st, h) = some r) : ∃ x st2, st = .inr (.inr (x + 1)) :: st2 ∧ r = .inl (pc + n, e_st1 lo a (.inr (.inr (x + 1))), st2, h) := by
  unfold f_astore at hf
  split at hf
  · rename_i heq
    cases heq
    cases hf
    exact ⟨_, _, rfl, rfl⟩
  · cases hf
theorem s_astore_n {y pc a b c9 : Nat} {q : Fin 4} (hq : (q : Nat) = a) (hn : a < ml y) (hd : decode (cb y) pc = .ok (.astore_n q, 1)) : e_P y pc (f_astore 1 a b c9) := by
  intro G B M d out E g r N hpc hf
  obtain ⟨p, l, e, R, s, m, args, below, meth, c, Q, c0, s0⟩ := M
  obtain ⟨hx, hb, hml, hown, hts, hX, hG, hlk, hin, hsh, hroom, hfr, htr, htab, hscr⟩ := N
  obtain ⟨pc', lo, st, h⟩ := g
  obtain rfl : pc' = pc := hpc
  obtain ⟨x, st2, rfl, rfl⟩ := i_astore hf
  refine ⟨_, rfl, fun hcF hsF k => ?_⟩
  intro H ls locs cells slots hH hl hc hs
  refine lv_astore_n hx hb hd hq hl hn (cLo_st1 G lo a (.inr (.inr (x + 1)))).symm (fun ls2 hl2 => ?_)
  exact k H ls2 locs cells slots hH hl2 hc hs
theorem s_astore {y pc a b c9 : Nat} (hn : a < ml y) (hd : decode (cb y) pc = .ok (.astore a, 2)) : e_P y pc (f_astore 2 a b c9) := by
  intro G B M d out E g r N hpc hf
  obtain ⟨p, l, e, R, s, m, args, below, meth, c, Q, c0, s0⟩ := M
  obtain ⟨hx, hb, hml, hown, hts, hX, hG, hlk, hin, hsh, hroom, hfr, htr, htab, hscr⟩ := N
  obtain ⟨pc', lo, st, h⟩ := g
  obtain rfl : pc' = pc := hpc
  obtain ⟨x, st2, rfl, rfl⟩ := i_astore hf
  refine ⟨_, rfl, fun hcF hsF k => ?_⟩
  intro H ls locs cells slots hH hl hc hs
  refine lv_astore hx hb hd hl hn (cLo_st1 G lo a (.inr (.inr (x + 1)))).symm (fun ls2 hl2 => ?_)
  exact k H ls2 locs cells slots hH hl2 hc hs
theorem i_iinc {a b c9 : Nat} {E : eE} {B : eB} {pc : Nat} {lo : List (Nat × eV)} {st : List eV} {h : eH} {r : eG ⊕ eO} (hf : f_iinc a b c9 E B (pc, lo, st, h) = some r) : ∃ x, e_lk lo a = some (.inl x) ∧ ((l32 x = true ∧ r = .inl (pc + 3, e_st1 lo a (.inl ((x + b) % 4294967296)), st, h)) ∨ r = .inl (pc + 3, (e_st1 lo a (.inl 0)).tail, st, h)) := by
  unfold f_iinc at hf
  dsimp only at hf
  split at hf
  · rename_i x hx
    cases hl : l32 x with
    | false =>
      rw [hl] at hf
      cases hf
      exact ⟨_, hx, Or.inr rfl⟩
    | true =>
      rw [hl] at hf
      cases hf
      exact ⟨_, hx, Or.inl ⟨hl, rfl⟩⟩
  · cases hf
theorem l32_lt {x : Nat} (h : l32 x = true) : x < 4294967296 := Nat.lt_succ_of_le (Nat.le_of_ble_eq_true h)
theorem s_iinc {y pc a b c9 : Nat} {z : Int} (hn : a < ml y) (hz : Int32.ofInt z = nI b) (hd : decode (cb y) pc = .ok (.iinc a z, 3)) : e_P y pc (f_iinc a b c9) := by
  intro G B M d out E g r N hpc hf
  obtain ⟨p, l, e, R, s, m, args, below, meth, c, Q, c0, s0⟩ := M
  obtain ⟨hx, hb, hml, hown, hts, hX, hG, hlk, hin, hsh, hroom, hfr, htr, htab, hscr⟩ := N
  obtain ⟨pc', lo, st, h⟩ := g
  obtain rfl : pc' = pc := hpc
  obtain ⟨x, hlk1, ⟨hl32, rfl⟩ | rfl⟩ := i_iinc hf
  · refine ⟨_, rfl, fun hcF hsF k => ?_⟩
    intro H ls locs cells slots hH hl hc hs
    obtain ⟨k1, hk1⟩ := cLo_lk (G := G) hlk1
    refine lv_iinc hx hb hd hl hk1 (v := giv G ((x + b) % 4294967296)) (by rw [hz, hG.2.1 x (l32_lt hl32), nI_add, hG.2.1 _ (Nat.mod_lt _ (by decide)), n32m]) hn (cLo_st1 G lo a (.inl ((x + b) % 4294967296))).symm (fun ls2 hl2 => ?_)
    exact k H ls2 locs cells slots hH hl2 hc hs
  · refine ⟨_, rfl, fun hcF hsF k => ?_⟩
    intro H ls locs cells slots hH hl hc hs
    obtain ⟨k1, hk1⟩ := cLo_lk (G := G) hlk1
    refine lv_iinc hx hb hd hl hk1 (v := giv G x + Int32.ofInt z) rfl hn rfl (fun ls2 hl2 => ?_)
    refine k H ls2 locs cells slots hH ⟨hl2.1, hl2.2.1, fun q hq => hl2.2.2 q ?_⟩ hc hs
    have e := congrArg List.tail (cLo_st1 G lo a (.inl 0))
    have hq2 : q ∈ (cLo G (e_st1 lo a (.inl 0))).tail := hq
    rw [e] at hq2
    exact List.mem_cons_of_mem _ hq2
theorem i_ii {ok : Nat → Nat → Bool} {f : Nat → Nat → Nat} {pc : Nat} {lo : List (Nat × eV)} {st : List eV} {h : eH} {r : eG ⊕ eO} (hf : e_ii ok f (pc, lo, st, h) = some r) : ∃ x y st2, st = .inl y :: .inl x :: st2 ∧ (l32 x && l32 y && ok x y) = true ∧ r = .inl (pc + 1, lo, .inl (f x y % 4294967296) :: st2, h) := by
  unfold e_ii at hf
  split at hf
  · rename_i p9 l9 y x st2 h9 heq
    cases heq
    cases hg : (l32 x && l32 y && ok x y) with
    | false => rw [hg] at hf; cases hf
    | true =>
      rw [hg] at hf
      cases hf
      exact ⟨_, _, _, rfl, hg, rfl⟩
  · cases hf
theorem i_ll {ok : Nat → Nat → Bool} {f : Nat → Nat → Nat} {pc : Nat} {lo : List (Nat × eV)} {st : List eV} {h : eH} {r : eG ⊕ eO} (hf : e_ll ok f (pc, lo, st, h) = some r) : ∃ x y st2, st = .inr (.inl y) :: .inr (.inl x) :: st2 ∧ (ok x y) = true ∧ r = .inl (pc + 1, lo, .inr (.inl (f x y % 18446744073709551616)) :: st2, h) := by
  unfold e_ll at hf
  split at hf
  · rename_i p9 l9 y x st2 h9 heq
    cases heq
    cases hg : (ok x y) with
    | false => rw [hg] at hf; cases hf
    | true =>
      rw [hg] at hf
      cases hf
      exact ⟨_, _, _, rfl, hg, rfl⟩
  · cases hf
theorem i_li {ok : Nat → Nat → Bool} {f : Nat → Nat → Nat} {pc : Nat} {lo : List (Nat × eV)} {st : List eV} {h : eH} {r : eG ⊕ eO} (hf : e_li ok f (pc, lo, st, h) = some r) : ∃ x y st2, st = .inl y :: .inr (.inl x) :: st2 ∧ (l32 y && ok x y) = true ∧ r = .inl (pc + 1, lo, .inr (.inl (f x y % 18446744073709551616)) :: st2, h) := by
  unfold e_li at hf
  split at hf
  · rename_i p9 l9 y x st2 h9 heq
    cases heq
    cases hg : (l32 y && ok x y) with
    | false => rw [hg] at hf; cases hf
    | true =>
      rw [hg] at hf
      cases hf
      exact ⟨_, _, _, rfl, hg, rfl⟩
  · cases hf
theorem s_iadd {y pc a b c9 : Nat} (hd : decode (cb y) pc = .ok (.iadd, 1)) : e_P y pc (f_iadd a b c9) := by
  intro G B M d out E g r N hpc hf
  obtain ⟨p, l, e, R, s, m, args, below, meth, c, Q, c0, s0⟩ := M
  obtain ⟨hx, hb, hml, hown, hts, hX, hG, hlk, hin, hsh, hroom, hfr, htr, htab, hscr⟩ := N
  obtain ⟨pc', lo, st, h⟩ := g
  obtain rfl : pc' = pc := hpc
  obtain ⟨x, z, st2, rfl, hg, rfl⟩ := i_ii hf
  simp only [Bool.and_eq_true] at hg
  refine ⟨_, rfl, fun hcF hsF k => ?_⟩
  intro H ls locs cells slots hH hl hc hs
  refine lv_iadd hx hb hd ?_
  have e : ∀ w, nI x + nI z = nI w → giv G x + giv G z = giv G (w % 4294967296) := fun w q => by rw [hG.2.1 x (l32_lt hg.1.1), hG.2.1 z (l32_lt hg.1.2), hG.2.1 _ (Nat.mod_lt _ (by decide)), n32m, q]
  rw [e _ (nI_add x z)]
  exact k H ls locs cells slots hH hl hc hs
theorem s_isub {y pc a b c9 : Nat} (hd : decode (cb y) pc = .ok (.isub, 1)) : e_P y pc (f_isub a b c9) := by
  intro G B M d out E g r N hpc hf
  obtain ⟨p, l, e, R, s, m, args, below, meth, c, Q, c0, s0⟩ := M
  obtain ⟨hx, hb, hml, hown, hts, hX, hG, hlk, hin, hsh, hroom, hfr, htr, htab, hscr⟩ := N
  obtain ⟨pc', lo, st, h⟩ := g
  obtain rfl : pc' = pc := hpc
  obtain ⟨x, z, st2, rfl, hg, rfl⟩ := i_ii hf
  simp only [Bool.and_eq_true] at hg
  refine ⟨_, rfl, fun hcF hsF k => ?_⟩
  intro H ls locs cells slots hH hl hc hs
  refine lv_isub hx hb hd ?_
  have e : ∀ w, nI x - nI z = nI w → giv G x - giv G z = giv G (w % 4294967296) := fun w q => by rw [hG.2.1 x (l32_lt hg.1.1), hG.2.1 z (l32_lt hg.1.2), hG.2.1 _ (Nat.mod_lt _ (by decide)), n32m, q]
  rw [e _ (n32_sub x z (Nat.le_of_lt (l32_lt hg.1.2)))]
  exact k H ls locs cells slots hH hl hc hs
theorem s_imul {y pc a b c9 : Nat} (hd : decode (cb y) pc = .ok (.imul, 1)) : e_P y pc (f_imul a b c9) := by
  intro G B M d out E g r N hpc hf
  obtain ⟨p, l, e, R, s, m, args, below, meth, c, Q, c0, s0⟩ := M
  obtain ⟨hx, hb, hml, hown, hts, hX, hG, hlk, hin, hsh, hroom, hfr, htr, htab, hscr⟩ := N
  obtain ⟨pc', lo, st, h⟩ := g
  obtain rfl : pc' = pc := hpc
  obtain ⟨x, z, st2, rfl, hg, rfl⟩ := i_ii hf
  simp only [Bool.and_eq_true] at hg
  refine ⟨_, rfl, fun hcF hsF k => ?_⟩
  intro H ls locs cells slots hH hl hc hs
  refine lv_imul hx hb hd ?_
  have e : ∀ w, nI x * nI z = nI w → giv G x * giv G z = giv G (w % 4294967296) := fun w q => by rw [hG.2.1 x (l32_lt hg.1.1), hG.2.1 z (l32_lt hg.1.2), hG.2.1 _ (Nat.mod_lt _ (by decide)), n32m, q]
  rw [e _ (pk_mul x z)]
  exact k H ls locs cells slots hH hl hc hs
theorem s_ior {y pc a b c9 : Nat} (hd : decode (cb y) pc = .ok (.ior, 1)) : e_P y pc (f_ior a b c9) := by
  intro G B M d out E g r N hpc hf
  obtain ⟨p, l, e, R, s, m, args, below, meth, c, Q, c0, s0⟩ := M
  obtain ⟨hx, hb, hml, hown, hts, hX, hG, hlk, hin, hsh, hroom, hfr, htr, htab, hscr⟩ := N
  obtain ⟨pc', lo, st, h⟩ := g
  obtain rfl : pc' = pc := hpc
  obtain ⟨x, z, st2, rfl, hg, rfl⟩ := i_ii hf
  simp only [Bool.and_eq_true] at hg
  refine ⟨_, rfl, fun hcF hsF k => ?_⟩
  intro H ls locs cells slots hH hl hc hs
  refine lv_ior hx hb hd ?_
  have e : ∀ w, nI x ||| nI z = nI w → giv G x ||| giv G z = giv G (w % 4294967296) := fun w q => by rw [hG.2.1 x (l32_lt hg.1.1), hG.2.1 z (l32_lt hg.1.2), hG.2.1 _ (Nat.mod_lt _ (by decide)), n32m, q]
  rw [e _ (n32_or x z)]
  exact k H ls locs cells slots hH hl hc hs
theorem s_ixor {y pc a b c9 : Nat} (hd : decode (cb y) pc = .ok (.ixor, 1)) : e_P y pc (f_ixor a b c9) := by
  intro G B M d out E g r N hpc hf
  obtain ⟨p, l, e, R, s, m, args, below, meth, c, Q, c0, s0⟩ := M
  obtain ⟨hx, hb, hml, hown, hts, hX, hG, hlk, hin, hsh, hroom, hfr, htr, htab, hscr⟩ := N
  obtain ⟨pc', lo, st, h⟩ := g
  obtain rfl : pc' = pc := hpc
  obtain ⟨x, z, st2, rfl, hg, rfl⟩ := i_ii hf
  simp only [Bool.and_eq_true] at hg
  refine ⟨_, rfl, fun hcF hsF k => ?_⟩
  intro H ls locs cells slots hH hl hc hs
  refine lv_ixor hx hb hd ?_
  have e : ∀ w, nI x ^^^ nI z = nI w → giv G x ^^^ giv G z = giv G (w % 4294967296) := fun w q => by rw [hG.2.1 x (l32_lt hg.1.1), hG.2.1 z (l32_lt hg.1.2), hG.2.1 _ (Nat.mod_lt _ (by decide)), n32m, q]
  rw [e _ (n32_xor x z)]
  exact k H ls locs cells slots hH hl hc hs
theorem s_ladd {y pc a b c9 : Nat} (hd : decode (cb y) pc = .ok (.ladd, 1)) : e_P y pc (f_ladd a b c9) := by
  intro G B M d out E g r N hpc hf
  obtain ⟨p, l, e, R, s, m, args, below, meth, c, Q, c0, s0⟩ := M
  obtain ⟨hx, hb, hml, hown, hts, hX, hG, hlk, hin, hsh, hroom, hfr, htr, htab, hscr⟩ := N
  obtain ⟨pc', lo, st, h⟩ := g
  obtain rfl : pc' = pc := hpc
  obtain ⟨x, z, st2, rfl, hg, rfl⟩ := i_ll hf
  refine ⟨_, rfl, fun hcF hsF k => ?_⟩
  intro H ls locs cells slots hH hl hc hs
  refine lv_ladd hx hb hd ?_
  have e : ∀ w, lN x + lN z = lN w → lN x + lN z = lN (w % 18446744073709551616) := fun w q => by rw [n64m, q]
  rw [e _ (lN_add x z)]
  exact k H ls locs cells slots hH hl hc hs
theorem s_lsub {y pc a b c9 : Nat} (hd : decode (cb y) pc = .ok (.lsub, 1)) : e_P y pc (f_lsub a b c9) := by
  intro G B M d out E g r N hpc hf
  obtain ⟨p, l, e, R, s, m, args, below, meth, c, Q, c0, s0⟩ := M
  obtain ⟨hx, hb, hml, hown, hts, hX, hG, hlk, hin, hsh, hroom, hfr, htr, htab, hscr⟩ := N
  obtain ⟨pc', lo, st, h⟩ := g
  obtain rfl : pc' = pc := hpc
  obtain ⟨x, z, st2, rfl, hg, rfl⟩ := i_ll hf
  refine ⟨_, rfl, fun hcF hsF k => ?_⟩
  intro H ls locs cells slots hH hl hc hs
  refine lv_lsub hx hb hd ?_
  have e : ∀ w, lN x - lN z = lN w → lN x - lN z = lN (w % 18446744073709551616) := fun w q => by rw [n64m, q]
  rw [e _ (n64_sub x z (Nat.le_succ_of_le (Nat.le_of_ble_eq_true hg)))]
  exact k H ls locs cells slots hH hl hc hs
theorem s_land {y pc a b c9 : Nat} (hd : decode (cb y) pc = .ok (.land, 1)) : e_P y pc (f_land a b c9) := by
  intro G B M d out E g r N hpc hf
  obtain ⟨p, l, e, R, s, m, args, below, meth, c, Q, c0, s0⟩ := M
  obtain ⟨hx, hb, hml, hown, hts, hX, hG, hlk, hin, hsh, hroom, hfr, htr, htab, hscr⟩ := N
  obtain ⟨pc', lo, st, h⟩ := g
  obtain rfl : pc' = pc := hpc
  obtain ⟨x, z, st2, rfl, hg, rfl⟩ := i_ll hf
  refine ⟨_, rfl, fun hcF hsF k => ?_⟩
  intro H ls locs cells slots hH hl hc hs
  refine lv_land hx hb hd ?_
  have e : ∀ w, lN x &&& lN z = lN w → lN x &&& lN z = lN (w % 18446744073709551616) := fun w q => by rw [n64m, q]
  rw [e _ (n64_and x z)]
  exact k H ls locs cells slots hH hl hc hs
theorem s_lor {y pc a b c9 : Nat} (hd : decode (cb y) pc = .ok (.lor, 1)) : e_P y pc (f_lor a b c9) := by
  intro G B M d out E g r N hpc hf
  obtain ⟨p, l, e, R, s, m, args, below, meth, c, Q, c0, s0⟩ := M
  obtain ⟨hx, hb, hml, hown, hts, hX, hG, hlk, hin, hsh, hroom, hfr, htr, htab, hscr⟩ := N
  obtain ⟨pc', lo, st, h⟩ := g
  obtain rfl : pc' = pc := hpc
  obtain ⟨x, z, st2, rfl, hg, rfl⟩ := i_ll hf
  refine ⟨_, rfl, fun hcF hsF k => ?_⟩
  intro H ls locs cells slots hH hl hc hs
  refine lv_lor hx hb hd ?_
  have e : ∀ w, lN x ||| lN z = lN w → lN x ||| lN z = lN (w % 18446744073709551616) := fun w q => by rw [n64m, q]
  rw [e _ (n64_or x z)]
  exact k H ls locs cells slots hH hl hc hs
theorem s_lxor {y pc a b c9 : Nat} (hd : decode (cb y) pc = .ok (.lxor, 1)) : e_P y pc (f_lxor a b c9) := by
  intro G B M d out E g r N hpc hf
  obtain ⟨p, l, e, R, s, m, args, below, meth, c, Q, c0, s0⟩ := M
  obtain ⟨hx, hb, hml, hown, hts, hX, hG, hlk, hin, hsh, hroom, hfr, htr, htab, hscr⟩ := N
  obtain ⟨pc', lo, st, h⟩ := g
  obtain rfl : pc' = pc := hpc
  obtain ⟨x, z, st2, rfl, hg, rfl⟩ := i_ll hf
  refine ⟨_, rfl, fun hcF hsF k => ?_⟩
  intro H ls locs cells slots hH hl hc hs
  refine lv_lxor hx hb hd ?_
  have e : ∀ w, lN x ^^^ lN z = lN w → lN x ^^^ lN z = lN (w % 18446744073709551616) := fun w q => by rw [n64m, q]
  rw [e _ (n64_xor x z)]
  exact k H ls locs cells slots hH hl hc hs
