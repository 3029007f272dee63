/-! ===== written by program (wip/engine2/gen6.py): new cells, the script, switches, copies ===== -/
theorem e_q {G : GT} {B : eB} {h : eH} {H1 : Heap} {q : Nat} {x : va_E} (hG : e_GOK G B) (hz : e_sz h ≤ 1023) (hP : va_P (gD G) vwCl (cW G h ++ [(q, x)]) H1) (hD : va_D (gF G) (cW G h ++ [(q, x)])) (hH : H1.size ≤ gb G + e_sz h + 1) : q = gad G (e_sz h) := by
  have hl : (cW G h ++ [(q, x)])[e_sz h]? = some (q, x) := by
    rw [List.getElem?_append_right (by rw [cW_len]; exact Nat.le_refl _), cW_len, Nat.sub_self]
    rfl
  have h1 : q < H1.size := (hP _ _ hl).lt
  have h2 : gb G ≤ q := hD.2 _ _ hl
  rw [hG.1 _ (by omega)]
  by_cases e : q = gb G + e_sz h
  · exact e
  · have hj : q - gb G < e_sz h := by omega
    have hk : (cW G h ++ [(q, x)])[q - gb G]? = some (gad G (q - gb G), cE G (e_get h (q - gb G))) := by
      rw [List.getElem?_append_left (by rw [cW_len]; exact hj), cW_at hj]
    have := hD.1 _ _ _ _ hk hl (by show gad G (q - gb G) = q; rw [hG.1 _ (by omega)]; omega)
    omega
theorem e_new_s {h : eH} (hn : e_new h = true) : e_cn h = e_sz h ∧ e_sz h ≤ 1022 := by
  unfold e_new at hn
  simp only [Bool.and_eq_true] at hn
  exact ⟨Nat.eq_of_beq_eq_true hn.1, Nat.le_of_ble_eq_true hn.2⟩
def e_ok0 (t : FieldType) : Bool := match t with
  | .int => true
  | .boolean => true
  | .long => true
  | .object _ => true
  | .array _ => true
  | _ => false
theorem e_d0_ok {G : GT} {B : eB} (hG : e_GOK G B) {t : FieldType} (h : e_ok0 t = true) : defaultValue t = cV G (e_d0 t) := by
  have h0 : giv G 0 = 0 := hG.2.1 0 (by decide)
  unfold e_ok0 at h
  split at h
  · show Value.int 0 = Value.int (giv G 0)
    rw [h0]
  · show Value.int 0 = Value.int (giv G 0)
    rw [h0]
  · rfl
  · rfl
  · rfl
  · cases h
theorem i_new {sz : Nat → Nat} {dv : Nat → Nat → eV} {a b c9 : Nat} {E : eE} {B : eB} {pc : Nat} {lo : List (Nat × eV)} {st : List eV} {h : eH} {r : eG ⊕ eO} (hf : f_new sz dv a b c9 E B (pc, lo, st, h) = some r) : e_new h = true ∧ r = .inl (pc + 3, lo, .inr (.inr (e_sz h + 1)) :: st, e_push h (a, sz a, dv a) (sz a)) := by
  unfold f_new at hf
  dsimp only at hf
  cases hg : e_new h with
  | false => rw [hg] at hf; cases hf
  | true =>
    rw [hg] at hf
    cases hf
    exact ⟨rfl, rfl⟩
theorem s_new {y pc a b c9 : Nat} {C : String} {T : u_T} (ha : a < 100) (hcl : vwCl[a]? = some (C, T, e_fn a)) (hci : ∀ w ∈ u_ws C T (e_fn a), w ∈ GW) (hty : ∀ k, k < e_fn a → parseFieldDescriptor (T k).2.2.1 = some (e_ft a k)) (ht0 : ∀ k, k < e_fn a → e_ok0 (e_ft a k) = true) (hw : Cond.classLink (nm y).cls b C ∈ GW) (hwi : Cond.instantiable C (e_fn a) ∈ GW) (hwn : Cond.initialized C ∈ GW) (hd : decode (cb y) pc = .ok (.new b, 3)) : e_P y pc (f_new e_fn e_dv a b c9) := by
  intro G B M d out E g r N hpc hf
  obtain ⟨p, l, e, R, s, m, args, below, meth, c, Q, c0, s0⟩ := M
  obtain ⟨hx, hb, hml, hown, hts, hX, hG, hlk, hin, hsh, hroom, hfr, htr, htab, hscr⟩ := N
  obtain ⟨pc', lo, st, h⟩ := g
  obtain rfl : pc' = pc := hpc
  obtain ⟨hnw, rfl⟩ := i_new hf
  refine ⟨_, rfl, fun hcF hsF k => ?_⟩
  intro H ls locs cells slots hH hl hc hs
  obtain ⟨hn1, hn2⟩ := e_new_s hnw
  have hz : e_sz h ≤ 1024 := hH.2.1
  have hcF2 : e_cn h + 1 ≤ e_cn out.2.2 := hcF
  have hsF2 : e_sl h + e_fn a ≤ e_sl out.2.2 := hsF
  have hc2 : cells + c0 = e_cn h := hc
  have hs2 : slots + s0 = e_sl h := hs
  have hr1 := hroom.1
  have hr2 := hroom.2
  refine va_new (D := gD G) (fs := (List.range (e_fn a)).map fun j => cV G (e_dv a j)) hx hb hts hci (e_ft a) hty hown (hts _ hw) (hts _ hwi) (hts _ hwn) hX.1 hH.1 (e_D hG hz) hH.2.2 (fun q h9 => Nat.le_trans hsh.1 h9) hcl (fun j hj => by
    unfold vp_V
    rw [List.getD_eq_getElem?_getD, cR_at hj]
    exact e_d0_ok hG (ht0 j hj)) (by omega) (by omega) hd (fun q H1 hP1 hD1 hS1 => ?_)
  refine e_sized fun hsz => ?_
  have hb1 := hsh.2.1
  have hq : q = gad G (e_sz h) := e_q hG (by omega) hP1 hD1 (by omega)
  subst hq
  refine k H1 ls locs (cells + 1) (slots + e_fn a) ⟨?_, by show e_sz h + 1 ≤ 1024; omega, hS1⟩ hl (by show cells + 1 + c0 = e_cn h + 1; omega) (by show slots + e_fn a + s0 = e_sl h + e_fn a; omega)
  show va_P (gD G) vwCl (cW G (e_push h (a, e_fn a, e_dv a) (e_fn a))) H1
  rw [cW_push (by omega), cE_obj ha]
  exact hP1
theorem i_newa {a b c9 : Nat} {E : eE} {B : eB} {pc : Nat} {lo : List (Nat × eV)} {st : List eV} {h : eH} {r : eG ⊕ eO} (hf : f_newa a b c9 E B (pc, lo, st, h) = some r) : ∃ n st2, st = .inl n :: st2 ∧ e_new h = true ∧ n ≤ 1000000 ∧ r = .inl (pc + 2, lo, .inr (.inr (e_sz h + 1)) :: st2, e_push h (a, n, fun _ => cond (Nat.beq a 102) (.inr (.inl 0)) (.inl 0)) n) := by
  unfold f_newa at hf
  split at hf
  · rename_i p9 l9 n st2 h9 heq
    cases heq
    cases hg : (e_new h && Nat.ble n 1000000) with
    | false => rw [hg] at hf; cases hf
    | true =>
      rw [hg] at hf
      cases hf
      simp only [Bool.and_eq_true] at hg
      exact ⟨n, st2, rfl, hg.1, Nat.le_of_ble_eq_true hg.2, rfl⟩
  · cases hf
theorem i_anew {a b c9 : Nat} {E : eE} {B : eB} {pc : Nat} {lo : List (Nat × eV)} {st : List eV} {h : eH} {r : eG ⊕ eO} (hf : f_anew a b c9 E B (pc, lo, st, h) = some r) : ∃ n st2, st = .inl n :: st2 ∧ e_new h = true ∧ n ≤ 1000000 ∧ r = .inl (pc + 3, lo, .inr (.inr (e_sz h + 1)) :: st2, e_push h (103, n, fun _ => .inr (.inr 0)) n) := by
  unfold f_anew at hf
  split at hf
  · rename_i p9 l9 n st2 h9 heq
    cases heq
    cases hg : (e_new h && Nat.ble n 1000000) with
    | false => rw [hg] at hf; cases hf
    | true =>
      rw [hg] at hf
      cases hf
      simp only [Bool.and_eq_true] at hg
      exact ⟨n, st2, rfl, hg.1, Nat.le_of_ble_eq_true hg.2, rfl⟩
  · cases hf
theorem e_cls {D : va_G} {s : State} {tys : List (ClassId × FieldType)} {cA cB : ClassId} {ty : FieldType} {t0 : Nat} (hK : va_K D vwCl (tys ++ [(cA, ty)]) s) (h0 : tys[t0]? = some (cB, ty)) : cA = cB := by
  have h1 : (tys ++ [(cA, ty)])[tys.length]? = some (cA, ty) := by
    rw [List.getElem?_append_right (Nat.le_refl _), Nat.sub_self]
    rfl
  have h2 : (tys ++ [(cA, ty)])[t0]? = some (cB, ty) := by
    rw [List.getElem?_append_left (List.getElem?_eq_some_iff.mp h0).1]
    exact h0
  have r1 := (hK.2 _ _ h1).2
  have r2 := (hK.2 _ _ h2).2
  cases ty with
  | object C =>
    obtain ⟨_, _, -, -, -, g1⟩ := r1
    obtain ⟨_, _, -, -, -, g2⟩ := r2
    exact Option.some.inj (g1.symm.trans g2)
  | _ => exact Option.some.inj (Eq.trans (Eq.symm r1) r2)
theorem s_newa100 {y pc b c9 : Nat} (hw : Cond.arrayClass .int ∈ GW) (hd : decode (cb y) pc = .ok (.newarray .int, 2)) : e_P y pc (f_newa 100 b c9) := by
  intro G B M d out E g r N hpc hf
  obtain ⟨p, l, e, R, s, m, args, below, meth, c, Q, c0, s0⟩ := M
  obtain ⟨hx, hb, hml, hown, hts, hX, hG, hlk, hin, hsh, hroom, hfr, htr, htab, hscr⟩ := N
  obtain ⟨pc', lo, st, h⟩ := g
  obtain rfl : pc' = pc := hpc
  obtain ⟨n, st2, rfl, hnw, hnn, rfl⟩ := i_newa hf
  refine ⟨_, rfl, fun hcF hsF k => ?_⟩
  intro H ls locs cells slots hH hl hc hs
  obtain ⟨hn1, hn2⟩ := e_new_s hnw
  have hz : e_sz h ≤ 1024 := hH.2.1
  have hcF2 : e_cn h + 1 ≤ e_cn out.2.2 := hcF
  have hsF2 : e_sl h + n ≤ e_sl out.2.2 := hsF
  have hc2 : cells + c0 = e_cn h := hc
  have hs2 : slots + s0 = e_sl h := hs
  have hr1 := hroom.1
  have hr2 := hroom.2
  have hb1 := hsh.2.1
  have hgn : giv G n = nI n := hG.2.1 n (by omega)
  have hg0 : giv G 0 = 0 := hG.2.1 0 (by decide)
  refine va_newa (D := gD G) (atype := .int) (ty := .int) (N' := n) (a0 := (n, .inl fun _ => 0)) hx hb (hts _ hw) rfl hX.1 hH.1 (e_D hG hz) hH.2.2 (fun q h9 => Nat.le_trans hsh.1 h9) (fun cA => rfl) (by show ¬ giv G n < 0; rw [hgn]; exact nI_pos (by omega)) (by show (giv G n).toNatClampNeg = n; rw [hgn]; exact nI_clamp (by omega)) (by show n * 4 ≤ 536870912; omega) (by omega) (by omega) hd (fun q cA H1 hK1 hP1 hD1 hS1 => ?_)
  have hcA : cA = gA G 100 := e_cls (t0 := 0) hK1 rfl
  subst hcA
  refine e_sized fun hsz => ?_
  have hq : q = gad G (e_sz h) := e_q hG (by omega) hP1 hD1 (by omega)
  subst hq
  refine k H1 ls locs (cells + 1) (slots + n) ⟨?_, by show e_sz h + 1 ≤ 1024; omega, hS1⟩ hl (by show cells + 1 + c0 = e_cn h + 1; omega) (by show slots + n + s0 = e_sl h + n; omega)
  show va_P (gD G) vwCl (cW G (e_push h (100, n, fun _ => (.inl 0)) n)) H1
  rw [cW_push (by omega), cE_int]
  dsimp only [cI]
  rw [hg0]
  exact hP1
theorem s_newa101 {y pc b c9 : Nat} (hw : Cond.arrayClass .byte ∈ GW) (hd : decode (cb y) pc = .ok (.newarray .byte, 2)) : e_P y pc (f_newa 101 b c9) := by
  intro G B M d out E g r N hpc hf
  obtain ⟨p, l, e, R, s, m, args, below, meth, c, Q, c0, s0⟩ := M
  obtain ⟨hx, hb, hml, hown, hts, hX, hG, hlk, hin, hsh, hroom, hfr, htr, htab, hscr⟩ := N
  obtain ⟨pc', lo, st, h⟩ := g
  obtain rfl : pc' = pc := hpc
  obtain ⟨n, st2, rfl, hnw, hnn, rfl⟩ := i_newa hf
  refine ⟨_, rfl, fun hcF hsF k => ?_⟩
  intro H ls locs cells slots hH hl hc hs
  obtain ⟨hn1, hn2⟩ := e_new_s hnw
  have hz : e_sz h ≤ 1024 := hH.2.1
  have hcF2 : e_cn h + 1 ≤ e_cn out.2.2 := hcF
  have hsF2 : e_sl h + n ≤ e_sl out.2.2 := hsF
  have hc2 : cells + c0 = e_cn h := hc
  have hs2 : slots + s0 = e_sl h := hs
  have hr1 := hroom.1
  have hr2 := hroom.2
  have hb1 := hsh.2.1
  have hgn : giv G n = nI n := hG.2.1 n (by omega)
  have hg0 : giv G 0 = 0 := hG.2.1 0 (by decide)
  refine va_newa (D := gD G) (atype := .byte) (ty := .byte) (N' := n) (a0 := (n, .inl fun _ => 0)) hx hb (hts _ hw) rfl hX.1 hH.1 (e_D hG hz) hH.2.2 (fun q h9 => Nat.le_trans hsh.1 h9) (fun cA => rfl) (by show ¬ giv G n < 0; rw [hgn]; exact nI_pos (by omega)) (by show (giv G n).toNatClampNeg = n; rw [hgn]; exact nI_clamp (by omega)) (by show n * 1 ≤ 536870912; omega) (by omega) (by omega) hd (fun q cA H1 hK1 hP1 hD1 hS1 => ?_)
  have hcA : cA = gA G 101 := e_cls (t0 := 1) hK1 rfl
  subst hcA
  refine e_sized fun hsz => ?_
  have hq : q = gad G (e_sz h) := e_q hG (by omega) hP1 hD1 (by omega)
  subst hq
  refine k H1 ls locs (cells + 1) (slots + n) ⟨?_, by show e_sz h + 1 ≤ 1024; omega, hS1⟩ hl (by show cells + 1 + c0 = e_cn h + 1; omega) (by show slots + n + s0 = e_sl h + n; omega)
  show va_P (gD G) vwCl (cW G (e_push h (101, n, fun _ => (.inl 0)) n)) H1
  rw [cW_push (by omega), cE_byte]
  dsimp only [cI]
  rw [hg0]
  exact hP1
theorem s_newa102 {y pc b c9 : Nat} (hw : Cond.arrayClass .long ∈ GW) (hd : decode (cb y) pc = .ok (.newarray .long, 2)) : e_P y pc (f_newa 102 b c9) := by
  intro G B M d out E g r N hpc hf
  obtain ⟨p, l, e, R, s, m, args, below, meth, c, Q, c0, s0⟩ := M
  obtain ⟨hx, hb, hml, hown, hts, hX, hG, hlk, hin, hsh, hroom, hfr, htr, htab, hscr⟩ := N
  obtain ⟨pc', lo, st, h⟩ := g
  obtain rfl : pc' = pc := hpc
  obtain ⟨n, st2, rfl, hnw, hnn, rfl⟩ := i_newa hf
  refine ⟨_, rfl, fun hcF hsF k => ?_⟩
  intro H ls locs cells slots hH hl hc hs
  obtain ⟨hn1, hn2⟩ := e_new_s hnw
  have hz : e_sz h ≤ 1024 := hH.2.1
  have hcF2 : e_cn h + 1 ≤ e_cn out.2.2 := hcF
  have hsF2 : e_sl h + n ≤ e_sl out.2.2 := hsF
  have hc2 : cells + c0 = e_cn h := hc
  have hs2 : slots + s0 = e_sl h := hs
  have hr1 := hroom.1
  have hr2 := hroom.2
  have hb1 := hsh.2.1
  have hgn : giv G n = nI n := hG.2.1 n (by omega)
  have hg0 : giv G 0 = 0 := hG.2.1 0 (by decide)
  refine va_newa (D := gD G) (atype := .long) (ty := .long) (N' := n) (a0 := (n, .inr (.inl fun _ => 0))) hx hb (hts _ hw) rfl hX.1 hH.1 (e_D hG hz) hH.2.2 (fun q h9 => Nat.le_trans hsh.1 h9) (fun cA => rfl) (by show ¬ giv G n < 0; rw [hgn]; exact nI_pos (by omega)) (by show (giv G n).toNatClampNeg = n; rw [hgn]; exact nI_clamp (by omega)) (by show n * 8 ≤ 536870912; omega) (by omega) (by omega) hd (fun q cA H1 hK1 hP1 hD1 hS1 => ?_)
  have hcA : cA = gA G 102 := e_cls (t0 := 2) hK1 rfl
  subst hcA
  refine e_sized fun hsz => ?_
  have hq : q = gad G (e_sz h) := e_q hG (by omega) hP1 hD1 (by omega)
  subst hq
  refine k H1 ls locs (cells + 1) (slots + n) ⟨?_, by show e_sz h + 1 ≤ 1024; omega, hS1⟩ hl (by show cells + 1 + c0 = e_cn h + 1; omega) (by show slots + n + s0 = e_sl h + n; omega)
  show va_P (gD G) vwCl (cW G (e_push h (102, n, fun _ => (.inr (.inl 0))) n)) H1
  rw [cW_push (by omega), cE_long]
  exact hP1
theorem s_anew {y pc a b c9 : Nat} (hw : Cond.classLink (nm y).cls b "IslandHall$Code" ∈ GW) (hd : decode (cb y) pc = .ok (.anewarray b, 3)) : e_P y pc (f_anew a b c9) := by
  intro G B M d out E g r N hpc hf
  obtain ⟨p, l, e, R, s, m, args, below, meth, c, Q, c0, s0⟩ := M
  obtain ⟨hx, hb, hml, hown, hts, hX, hG, hlk, hin, hsh, hroom, hfr, htr, htab, hscr⟩ := N
  obtain ⟨pc', lo, st, h⟩ := g
  obtain rfl : pc' = pc := hpc
  obtain ⟨n, st2, rfl, hnw, hnn, rfl⟩ := i_anew hf
  refine ⟨_, rfl, fun hcF hsF k => ?_⟩
  intro H ls locs cells slots hH hl hc hs
  obtain ⟨hn1, hn2⟩ := e_new_s hnw
  have hz : e_sz h ≤ 1024 := hH.2.1
  have hcF2 : e_cn h + 1 ≤ e_cn out.2.2 := hcF
  have hsF2 : e_sl h + n ≤ e_sl out.2.2 := hsF
  have hc2 : cells + c0 = e_cn h := hc
  have hs2 : slots + s0 = e_sl h := hs
  have hr1 := hroom.1
  have hr2 := hroom.2
  have hb1 := hsh.2.1
  have hgn : giv G n = nI n := hG.2.1 n (by omega)
  have hg0 : giv G 0 = 0 := hG.2.1 0 (by decide)
  refine va_newq (D := gD G) (N' := n) hx hb hown (hts _ hw) hX.2.1 hX.1 hH.1 (e_D hG hz) hH.2.2 (fun q h9 => Nat.le_trans hsh.1 h9) (by show ¬ giv G n < 0; rw [hgn]; exact nI_pos (by omega)) (by show (giv G n).toNatClampNeg = n; rw [hgn]; exact nI_clamp (by omega)) (by omega) (by omega) (by omega) hd (fun q cA H1 hK1 hP1 hD1 hS1 => ?_)
  have hcA : cA = gA G 103 := e_cls (t0 := 3) hK1 rfl
  subst hcA
  refine e_sized fun hsz => ?_
  have hq : q = gad G (e_sz h) := e_q hG (by omega) hP1 hD1 (by omega)
  subst hq
  refine k H1 ls locs (cells + 1) (slots + n) ⟨?_, by show e_sz h + 1 ≤ 1024; omega, hS1⟩ hl (by show cells + 1 + c0 = e_cn h + 1; omega) (by show slots + n + s0 = e_sl h + n; omega)
  show va_P (gD G) vwCl (cW G (e_push h (103, n, fun _ => .inr (.inr 0)) n)) H1
  rw [cW_push (by omega), cE_code]
  exact hP1
theorem arrV_congr {cI : ClassId} {N : Nat} {f g : Nat → Value} (h : ∀ j, j < N → f j = g j) : arrV cI N f = arrV cI N g := by
  unfold arrV
  congr 2
  funext j
  exact h j.val j.isLt
theorem e_rows_s (k : Nat) : ∀ (n : Nat) (h : eH), e_cn (e_rows k n h) = e_cn h + n ∧ e_sl (e_rows k n h) = e_sl h + n * k ∧ e_sz (e_rows k n h) = e_sz h + n := by
  intro n
  induction n with
  | zero => intro h; exact ⟨rfl, by show e_sl h = e_sl h + 0 * k; omega, rfl⟩
  | succ n ih =>
    intro h
    obtain ⟨h1, h2, h3⟩ := ih h
    refine ⟨by show e_cn (e_rows k n h) + 1 = _; omega, ?_, by show e_sz (e_rows k n h) + 1 = _; omega⟩
    show e_sl (e_rows k n h) + k = e_sl h + (n + 1) * k
    rw [h2, Nat.add_mul]
    omega
theorem e_rows_W {G : GT} (k : Nat) : ∀ (n : Nat) (h : eH), e_sz h + n ≤ 1024 → cW G (e_rows k n h) = cW G h ++ (List.range n).map (fun i => (gad G (e_sz h + i), cE G (102, k, fun _ => .inr (.inl 0)))) := by
  intro n
  induction n with
  | zero => intro h _; show cW G h = cW G h ++ []; rw [List.append_nil]
  | succ n ih =>
    intro h hz
    have h3 := (e_rows_s k n h).2.2
    show cW G (e_push (e_rows k n h) (102, k, fun _ => .inr (.inl 0)) k) = _
    rw [cW_push (by omega), ih h (by omega), List.range_succ, List.map_append, List.append_assoc, h3]
    rfl
theorem i_mnew {a b c9 : Nat} {E : eE} {B : eB} {pc : Nat} {lo : List (Nat × eV)} {st : List eV} {h : eH} {r : eG ⊕ eO} (hf : f_mnew a b c9 E B (pc, lo, st, h) = some r) : ∃ k n st2, st = .inl k :: .inl n :: st2 ∧ e_cn h = e_sz h ∧ e_sz h + n ≤ 1022 ∧ n ≤ 1000000 ∧ k ≤ 1000000 ∧ r = .inl (pc + 4, lo, .inr (.inr (e_sz h + 1)) :: st2, e_rows k n (e_push h (104, n, fun j => .inr (.inr (e_sz h + 2 + j))) n)) := by
  unfold f_mnew at hf
  split at hf
  · rename_i p9 l9 k n st2 h9 heq
    cases heq
    cases hg : (Nat.beq (e_cn h) (e_sz h) && Nat.ble (e_sz h + n) 1022 && Nat.ble n 1000000 && Nat.ble k 1000000) with
    | false => rw [hg] at hf; cases hf
    | true =>
      rw [hg] at hf
      cases hf
      simp only [Bool.and_eq_true] at hg
      exact ⟨k, n, st2, rfl, Nat.eq_of_beq_eq_true hg.1.1.1, Nat.le_of_ble_eq_true hg.1.1.2, Nat.le_of_ble_eq_true hg.1.2, Nat.le_of_ble_eq_true hg.2, rfl⟩
  · cases hf
theorem s_mnew {y pc a b c9 : Nat} (hw : Cond.classLink (nm y).cls b "[[J" ∈ GW) (hw2 : Cond.arrayClass .long ∈ GW) (hd : decode (cb y) pc = .ok (.multianewarray b 2, 4)) : e_P y pc (f_mnew a b c9) := by
  intro G B M d out E g r N hpc hf
  obtain ⟨p, l, e, R, s, m, args, below, meth, c, Q, c0, s0⟩ := M
  obtain ⟨hx, hb, hml, hown, hts, hX, hG, hlk, hin, hsh, hroom, hfr, htr, htab, hscr⟩ := N
  obtain ⟨pc', lo, st, h⟩ := g
  obtain rfl : pc' = pc := hpc
  obtain ⟨kk, n, st2, rfl, hn1, hn2, hn3, hn4, rfl⟩ := i_mnew hf
  refine ⟨_, rfl, fun hcF hsF k => ?_⟩
  intro H ls locs cells slots hH hl hc hs
  have hz : e_sz h ≤ 1024 := hH.2.1
  obtain ⟨r1, r2, r3⟩ := e_rows_s kk n (e_push h (104, n, fun j => .inr (.inr (e_sz h + 2 + j))) n)
  have r1' : e_cn (e_rows kk n (e_push h (104, n, fun j => .inr (.inr (e_sz h + 2 + j))) n)) = e_cn h + 1 + n := r1
  have r2' : e_sl (e_rows kk n (e_push h (104, n, fun j => .inr (.inr (e_sz h + 2 + j))) n)) = e_sl h + n + n * kk := r2
  have r3' : e_sz (e_rows kk n (e_push h (104, n, fun j => .inr (.inr (e_sz h + 2 + j))) n)) = e_sz h + 1 + n := r3
  have hcF2 : e_cn h + 1 + n ≤ e_cn out.2.2 := by rw [← r1']; exact hcF
  have hsF2 : e_sl h + n + n * kk ≤ e_sl out.2.2 := by rw [← r2']; exact hsF
  have hc2 : cells + c0 = e_cn h := hc
  have hs2 : slots + s0 = e_sl h := hs
  have hr1 := hroom.1
  have hr2 := hroom.2
  have hb1 := hsh.2.1
  have hgn : giv G n = nI n := hG.2.1 n (by omega)
  have hgk : giv G kk = nI kk := hG.2.1 kk (by omega)
  have cn : (nI n).toNatClampNeg = n := nI_clamp (by omega)
  have ck : (nI kk).toNatClampNeg = kk := nI_clamp (by omega)
  refine e_sized fun hsz => ?_
  intro T hT X
  have hg9 : (F0 m pc' ls (List.map (cV G) (.inl kk :: .inl n :: st2))).stack = .int (nI kk) :: .int (nI n) :: st2.map (cV G) := by
    show [Value.int (giv G kk), Value.int (giv G n)] ++ st2.map (cV G) = _
    rw [hgn, hgk]
    rfl
  obtain ⟨vm₁, cA, cy, -, fA, fC, hO, hI, X2, step⟩ := X.multianewarray2F hx (own := (nm y).cls) (index := b) (ty := .long) hown (hts _ hw) (va_AOA.use hX.2.2.1) (hts _ hw2) (g := F0 m pc' ls (List.map (cV G) (.inl kk :: .inl n :: st2))) rfl (by rw [hb]; exact hd) hg9 (nI_pos (by omega)) (nI_pos (by omega)) (by rw [cn]; omega) (by rw [ck]; show kk * 8 ≤ _; omega) (by rw [ck]; omega) rfl rfl (by rw [cn]; omega) (by rw [cn, ck]; omega)
  rw [cn, ck] at X2 step
  have hcA : cA = gA G 104 := Option.some.inj (fA.symm.trans (hX.1.2 4 _ rfl).2)
  have hcy : cy = gA G 102 := Option.some.inj (fC.symm.trans (hX.1.2 2 _ rfl).2)
  subst hcA
  subst hcy
  generalize hF : Jvm.Free.Multi.fill (T.setVm vm₁) (gA G 104) (gA G 102) n kk (defaultValue .long) n = F at X2 step
  have hTh : (T.setVm vm₁).heap = H := hT
  obtain ⟨f1, f2, -, -⟩ := Jvm.Free.Multi.fill_facts (T.setVm vm₁) (gA G 104) (gA G 102) n kk (defaultValue .long) n
  rw [hF, hTh] at f1 f2
  have hold : ∀ x : Nat, x < H.size → F.heap[x]? = H[x]? := fun x hx9 => by
    have := Jvm.Free.Multi.fill_old (T.setVm vm₁) (gA G 104) (gA G 102) n kk (defaultValue .long) (a := x) (by rw [hTh]; exact hx9) n
    rw [hF, hTh] at this
    exact this
  have hrow : ∀ j : Nat, j < n → F.heap[H.size + 1 + j]? = some (Jvm.Free.Multi.innerC (gA G 102) kk (defaultValue .long)) := fun j hj => by
    have := Jvm.Free.Multi.fill_inner (T.setVm vm₁) (gA G 104) (gA G 102) n kk (defaultValue .long) n j hj
    rw [hF, hTh] at this
    exact this
  have hHs : H.size = gb G + e_sz h := by
    have h1 : gb G + e_sz h ≤ H.size := by
      by_cases h0 : e_sz h = 0
      · rw [h0]
        exact Nat.le_trans hsh.1 hH.2.2.1
      · have := (hH.1 (e_sz h - 1) _ (cW_at (h := h) (show e_sz h - 1 < e_sz h by omega))).lt
        have h2 : gad G (e_sz h - 1) < H.size := this
        rw [hG.1 _ (by omega)] at h2
        omega
    omega
  have hP2 : va_P (gD G) vwCl (cW G (e_rows kk n (e_push h (104, n, fun j => .inr (.inr (e_sz h + 2 + j))) n))) F.heap := by
    rw [e_rows_W kk n _ (by show e_sz h + 1 + n ≤ 1024; omega), cW_push (by omega)]
    refine va_P.app (va_P.app (hH.1.kept (fun k9 x hx9 => hold x.1 ((hH.1 k9 x hx9).lt))) (fun k9 x hx9 => ?_)) (fun k9 x hx9 => ?_)
    · have h0 : k9 < 1 := (List.getElem?_eq_some_iff.mp hx9).1
      rw [show k9 = 0 by omega] at hx9
      cases hx9
      show F.heap[gad G (e_sz h)]? = some (vp_cell (gA G 104) (n, .inr (.inr (.inr (.inr fun j => cO G (.inr (.inr (e_sz h + 2 + j))))))))
      rw [hG.1 _ (by omega), ← hHs, f2, vp_cell_q, vr_outer]
      refine congrArg some ?_
      show arrV (gA G 104) n (fun j => va_rf (if j < n then some (H.size + 1 + j) else none)) = _
      apply arrV_congr
      intro j hj
      rw [if_pos hj]
      rw [show e_sz h + 2 + j = e_sz h + 1 + j + 1 by omega]
      show Value.ref (H.size + 1 + j) = Value.ref (gad G (e_sz h + 1 + j))
      rw [hG.1 _ (by omega), hHs, show gb G + e_sz h + 1 + j = gb G + (e_sz h + 1 + j) by omega]
    · obtain ⟨i, hi, rfl⟩ := List.mem_map.mp (List.mem_of_getElem? hx9)
      have hi2 := List.mem_range.mp hi
      show F.heap[gad G (e_sz h + 1 + i)]? = some (vp_cell (gA G 102) (kk, .inr (.inl fun _ => cL (.inr (.inl 0)))))
      rw [hG.1 _ (by omega), show gb G + (e_sz h + 1 + i) = H.size + 1 + i by omega, hrow i hi2, vp_cell_l, ← arrV_new]
      rfl
  have hS2 : va_S (gF G) s.heap F.heap locs := ⟨by rw [f1]; have := hH.2.2.1; omega, fun x h1 h2 => (hold x (Nat.lt_of_lt_of_le h1 hH.2.2.1)).trans (hH.2.2.2.1 x h1 h2), hH.2.2.2.2⟩
  obtain ⟨t, a1, b1⟩ := k F.heap ls locs (cells + 1 + n) (slots + n + n * kk) ⟨hP2, by show e_sz (e_rows kk n (e_push h (104, n, fun j => .inr (.inr (e_sz h + 2 + j))) n)) ≤ 1024; omega, hS2⟩ hl (by show _ = e_cn (e_rows kk n (e_push h (104, n, fun j => .inr (.inr (e_sz h + 2 + j))) n)); omega) (by show _ = e_sl (e_rows kk n (e_push h (104, n, fun j => .inr (.inr (e_sz h + 2 + j))) n)); omega) F rfl X2
  refine ⟨t, step t ?_, b1⟩
  have e9 : T.heap.size = gad G (e_sz h) := by rw [hT, hHs, hG.1 _ (by omega)]
  rw [e9]
  exact a1
theorem i_sald {a b c9 : Nat} {E : eE} {B : eB} {pc : Nat} {lo : List (Nat × eV)} {st : List eV} {h : eH} {r : eG ⊕ eO} (hf : f_sald a b c9 E B (pc, lo, st, h) = some r) : ∃ x st2, st = .inl x :: .inr (.inr (4096 + 1)) :: st2 ∧ (B 0).2 = 1 ∧ x < (B 0).1 ∧ x ≤ 4095 ∧ (∃ v w, (B (1099511627776 + x)).1 = v ∧ (B (1099511627776 + x)).2 = v ∧ v < 4294967296 ∧ w = (v + 2147483648) % 4294967296 ∧ r = .inl (pc + 1, lo, .inl w :: st2, h)) := by
  unfold f_sald at hf
  split at hf
  · rename_i p9 l9 x q st2 h9 heq
    cases heq
    cases hg : (Nat.beq q 4096 && Nat.beq (B 0).2 1 && Nat.ble (x + 1) (B 0).1 && Nat.ble x 4095 && Nat.beq (B (1099511627776 + x)).1 (B (1099511627776 + x)).2 && l32 (B (1099511627776 + x)).1) with
    | false => rw [hg] at hf; cases hf
    | true =>
      rw [hg] at hf
      cases hf
      simp only [Bool.and_eq_true] at hg
      obtain ⟨⟨⟨⟨⟨g1, g2⟩, g3⟩, g4⟩, g5⟩, g6⟩ := hg
      have e : q = 4096 := Nat.eq_of_beq_eq_true g1
      subst e
      exact ⟨x, st2, rfl, Nat.eq_of_beq_eq_true g2, Nat.le_of_ble_eq_true g3, Nat.le_of_ble_eq_true g4, _, _, rfl, (Nat.eq_of_beq_eq_true g5).symm, l32_lt g6, rfl, rfl⟩
  · cases hf
theorem e_K_inv {x : Int32} {u : Nat} (h : e_K x = u) (hu : u < 4294967296) : x = nI ((u + 2147483648) % 4294967296) := by
  rw [e_K_eq, h, e_K_nI (Nat.mod_lt _ (by decide))]
  omega
theorem vp_in_nI' {x L : Nat} (h : x < L) (h7 : x ≤ 4095) : vp_in (nI x) L := by
  unfold vp_in
  intro q
  rcases q with q | q
  · exact nI_pos (by omega) q
  · rw [nI_clamp (by omega)] at q
    omega
theorem s_sald {y pc a b c9 : Nat} (hy : y = 0) (hd : decode (cb y) pc = .ok (.iaload, 1)) : e_P y pc (f_sald a b c9) := by
  intro G B M d out E g r N hpc hf
  obtain ⟨p, l, e, R, s, m, args, below, meth, c, Q, c0, s0⟩ := M
  obtain ⟨hx, hb, hml, hown, hts, hX, hG, hlk, hin, hsh, hroom, hfr, htr, htab, hscr⟩ := N
  obtain ⟨pc', lo, st, h⟩ := g
  obtain rfl : pc' = pc := hpc
  obtain ⟨x, st2, rfl, hB0, hxL, hx7, v, w, hv1, hv2, hu2, hw, rfl⟩ := i_sald hf
  obtain ⟨hbl, xs, hXs, hxs⟩ := hscr hy hB0
  have hgx : giv G x = nI x := hG.2.1 x (by omega)
  have hci : (nI x).toNatClampNeg = x := nI_clamp (by omega)
  refine ⟨_, rfl, fun hcF hsF k => ?_⟩
  intro H ls locs cells slots hH hl hc hs
  have hL : va_X (gad G 4096) (B 0).1 xs s s.heap := hXs.kept (hsh.2.2 _ hbl)
  show W p l e R s m args below meth c H locs cells slots Q (F0 m pc' ls (.int (giv G x) :: .ref (gad G 4096) :: st2.map (cV G)))
  refine va_sld hx hb hL (Nat.lt_of_lt_of_le hbl hsh.1) (Nat.not_le.mpr hbl) hH.2.2 (i := giv G x) (by rw [hgx]; exact vp_in_nI' hxL hx7) hd ?_
  have hbd := hG.2.2.1 (1099511627776 + x) (by omega)
  rw [hv1, hv2] at hbd
  have hw2 : w < 4294967296 := by rw [hw]; exact Nat.mod_lt _ (by decide)
  have he : xs x = giv G w := by
    rw [hG.2.1 w hw2, ← hxs x (by omega), hw]
    exact e_K_inv (Nat.le_antisymm hbd.2 hbd.1) hu2
  rw [hgx, hci, he]
  exact k H ls locs cells slots hH hl hc hs
theorem i_slen {a b c9 : Nat} {E : eE} {B : eB} {pc : Nat} {lo : List (Nat × eV)} {st : List eV} {h : eH} {r : eG ⊕ eO} (hf : f_slen a b c9 E B (pc, lo, st, h) = some r) : ∃ st2, st = .inr (.inr (4096 + 1)) :: st2 ∧ (B 0).2 = 1 ∧ (B 0).1 ≤ 100000 ∧ r = .inl (pc + 1, lo, .inl (B 0).1 :: st2, h) := by
  unfold f_slen at hf
  split at hf
  · rename_i p9 l9 q st2 h9 heq
    cases heq
    cases hg : (Nat.beq q 4096 && Nat.beq (B 0).2 1 && Nat.ble (B 0).1 100000) with
    | false => rw [hg] at hf; cases hf
    | true =>
      rw [hg] at hf
      cases hf
      simp only [Bool.and_eq_true] at hg
      have e : q = 4096 := Nat.eq_of_beq_eq_true hg.1.1
      subst e
      exact ⟨st2, rfl, Nat.eq_of_beq_eq_true hg.1.2, Nat.le_of_ble_eq_true hg.2, rfl⟩
  · cases hf
theorem s_slen {y pc a b c9 : Nat} (hy : y = 0) (hd : decode (cb y) pc = .ok (.arraylength, 1)) : e_P y pc (f_slen a b c9) := by
  intro G B M d out E g r N hpc hf
  obtain ⟨p, l, e, R, s, m, args, below, meth, c, Q, c0, s0⟩ := M
  obtain ⟨hx, hb, hml, hown, hts, hX, hG, hlk, hin, hsh, hroom, hfr, htr, htab, hscr⟩ := N
  obtain ⟨pc', lo, st, h⟩ := g
  obtain rfl : pc' = pc := hpc
  obtain ⟨st2, rfl, hB0, hBL, rfl⟩ := i_slen hf
  refine ⟨_, rfl, fun hcF hsF k => ?_⟩
  intro H ls locs cells slots hH hl hc hs
  obtain ⟨hbl, xs, hXs, hxs⟩ := hscr hy hB0
  have hL : va_X (gad G 4096) (B 0).1 xs s s.heap := hXs.kept (hsh.2.2 _ hbl)
  refine va_slen hx hb hL (Nat.lt_of_lt_of_le hbl hsh.1) (Nat.not_le.mpr hbl) hH.2.2 hd ?_
  rw [show Int32.ofNat (B 0).1 = giv G (B 0).1 from (hG.2.1 _ (by omega)).symm]
  exact k H ls locs cells slots hH hl hc hs
theorem i_table {sw : Nat → Nat × Nat × List Nat} {a b c9 : Nat} {E : eE} {B : eB} {pc : Nat} {lo : List (Nat × eV)} {st : List eV} {h : eH} {r : eG ⊕ eO} {d9 lw : Nat} {ts : List Nat} (hsw : sw a = (d9, lw, ts)) (hf : f_table sw a b c9 E B (pc, lo, st, h) = some r) : ∃ x st2 b1, st = .inl x :: st2 ∧ e_lt (e_rng B x) (2147483648 + lw, 2147483648 + lw) = some b1 ∧ ((b1 = true ∧ r = .inl (d9, lo, st2, h)) ∨ (b1 = false ∧ ∃ b2, e_lt (e_rng B x) (2147483648 + lw + ts.length, 2147483648 + lw + ts.length) = some b2 ∧ ((b2 = false ∧ r = .inl (d9, lo, st2, h)) ∨ (b2 = true ∧ l32 x = true ∧ ∃ t, ts[x - lw]? = some t ∧ r = .inl (t, lo, st2, h))))) := by
  unfold f_table at hf
  split at hf
  · rename_i p9 l9 x st2 h9 heq
    cases heq
    rw [hsw] at hf
    dsimp only at hf
    split at hf
    · rename_i h1
      cases hf
      exact ⟨x, st2, true, rfl, h1, Or.inl ⟨rfl, rfl⟩⟩
    · rename_i h1
      split at hf
      · rename_i h2
        cases hf
        exact ⟨x, st2, false, rfl, h1, Or.inr ⟨rfl, false, h2, Or.inl ⟨rfl, rfl⟩⟩⟩
      · rename_i h2
        cases hl : l32 x with
        | false => rw [hl] at hf; cases hf
        | true =>
          rw [hl] at hf
          dsimp only [cond] at hf
          split at hf
          · rename_i t ht
            cases hf
            exact ⟨x, st2, false, rfl, h1, Or.inr ⟨rfl, true, h2, Or.inr ⟨rfl, hl, t, ht, rfl⟩⟩⟩
          · cases hf
      · cases hf
    · cases hf
  · cases hf
theorem e_K_sh {x : Int32} {n : Nat} (hn : n < 2147483648) : (x.toInt < (n : Int) ↔ e_K x < 2147483648 + n) := by
  have h1 := Int32.le_toInt x
  unfold e_K
  omega
theorem e_lt_n {u : Nat × Nat} {x : Int32} {n : Nat} {b : Bool} (h : e_lt u (2147483648 + n, 2147483648 + n) = some b) (hu : u.1 ≤ e_K x ∧ e_K x ≤ u.2) (hn : n < 2147483648) : (x.toInt < (n : Int) ↔ b = true) := by
  rw [e_K_sh hn]
  unfold e_lt at h
  cases h1 : Nat.ble (u.2 + 1) (2147483648 + n) with
  | true =>
    rw [h1] at h
    cases h
    have := Nat.le_of_ble_eq_true h1
    exact ⟨fun _ => rfl, fun _ => by omega⟩
  | false =>
    rw [h1] at h
    cases h2 : Nat.ble (2147483648 + n) u.1 with
    | true =>
      rw [h2] at h
      cases h
      have := Nat.le_of_ble_eq_true h2
      exact ⟨fun q => by omega, fun q => by cases q⟩
    | false =>
      rw [h2] at h
      cases h
theorem s_table {y pc a b c9 d9 lw len : Nat} {ts : List Nat} {dflt : Int} {offs : Array Int} (hsw : e_sw a = (d9, lw, ts)) (hlw : lw < 1000 ∧ ts.length < 1000) (hd : decode (cb y) pc = .ok (.tableswitch dflt (lw : Int) ((lw : Int) + ts.length - 1) offs, len)) (hdf : (pc : Int) + dflt = (d9 : Int)) (hof : ∀ (i t : Nat), ts[i]? = some t → ∃ off, offs[i]? = some off ∧ (pc : Int) + off = (t : Int)) : e_P y pc (f_table e_sw a b c9) := by
  intro G B M d out E g r N hpc hf
  obtain ⟨p, l, e, R, s, m, args, below, meth, c, Q, c0, s0⟩ := M
  obtain ⟨hx, hb, hml, hown, hts, hX, hG, hlk, hin, hsh, hroom, hfr, htr, htab, hscr⟩ := N
  obtain ⟨pc', lo, st, h⟩ := g
  obtain rfl : pc' = pc := hpc
  obtain ⟨x, st2, b1, rfl, hb1, hr⟩ := i_table hsw hf
  have k1 := e_lt_n hb1 (e_in hG x) (by omega)
  rcases hr with ⟨rfl, rfl⟩ | ⟨rfl, b2, hb2, hr⟩
  · refine ⟨_, rfl, fun hcF hsF k => ?_⟩
    intro H ls locs cells slots hH hl hc hs
    refine lv_tableOut hx hb hd (Or.inl (k1.mpr rfl)) hdf ?_
    exact k H ls locs cells slots hH hl hc hs
  · have hb2' : e_lt (e_rng B x) (2147483648 + (lw + ts.length), 2147483648 + (lw + ts.length)) = some b2 := by rw [← Nat.add_assoc]; exact hb2
    have k2 := e_lt_n hb2' (e_in hG x) (by omega)
    have n1 : ¬ (giv G x).toInt < (lw : Int) := fun q => by have := k1.mp q; cases this
    rcases hr with ⟨rfl, rfl⟩ | ⟨rfl, hl32, t, ht, rfl⟩
    · have n2 : ¬ (giv G x).toInt < ((lw + ts.length : Nat) : Int) := fun q => by have := k2.mp q; cases this
      refine ⟨_, rfl, fun hcF hsF k => ?_⟩
      intro H ls locs cells slots hH hl hc hs
      refine lv_tableOut hx hb hd (Or.inr (by omega)) hdf ?_
      exact k H ls locs cells slots hH hl hc hs
    · have n2 : (giv G x).toInt < ((lw + ts.length : Nat) : Int) := k2.mpr rfl
      obtain ⟨off, ho1, ho2⟩ := hof _ _ ht
      have hxs : (giv G x).toInt = (x : Int) := by
        have hx2 := l32_lt hl32
        rw [hG.2.1 x hx2] at n1 n2 ⊢
        by_cases h31 : x < 2 ^ 31
        · exact nI_toInt h31
        · exfalso
          have e1 := e_K_nI hx2
          unfold e_K at e1
          have h9 := Int32.le_toInt (nI x)
          omega
      refine ⟨_, rfl, fun hcF hsF k => ?_⟩
      intro H ls locs cells slots hH hl hc hs
      refine lv_tableIn hx hb hd n1 (by omega) (off := off) (by rw [hxs, show ((x : Int) - (lw : Int)).toNat = x - lw by omega]; exact ho1) ho2 ?_
      exact k H ls locs cells slots hH hl hc hs
