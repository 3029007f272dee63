/-! ===== calls and ends ===== -/
theorem e_nw_tab : ∀ w ∈ e_nw, w.onTables = true := by decide +kernel
theorem e_X.warm {G : GT} {s U : State} (hW : s.WarmedH U.vm) (h : e_X G s) : e_X G U := by
  obtain ⟨h1, h2, h3, h4, h5, h6, h7, h8⟩ := h
  refine ⟨va_K.moved hW.alike h1, va_AO.moved hW.alike h2, va_AOA.moved hW.alike h3, vx_Zq.moved hW.alike h4, vx_Zq.moved hW.alike h5, fun i q hq => vk_R.warm hW (h6 i q hq), ?_, va_Z.moved hW.alike h8.1, va_T.moved hW.alike h8.2.1, ⟨va_Z.moved hW.alike h8.2.2.1.1, va_Zq.moved hW.alike h8.2.2.1.2⟩, vk_S.moved hW.alike h8.2.2.2⟩
  have g := h7
  unfold e_nw at g ⊢
  simp only [List.forall_mem_cons, List.not_mem_nil, false_implies, implies_true, and_true] at g ⊢
  obtain ⟨a1, a2, a3, a4, a5, a6, a7, b1, b2, b3, a8, a9, a10⟩ := g
  exact ⟨va_Nw.warmC hW a1, va_Nw.warmC hW a2, va_Nw.warmM hW a3, va_Nw.warmM hW a4, va_Nw.warmM hW a5, va_Nw.warmM hW a6, va_Nw.warmM hW a7, va_Nw.warmF hW b1, va_Nw.warmF hW b2, va_Nw.warmF hW b3, va_Nw.warmD hW a8, va_Nw.warmD hW a9, va_Nw.warmD hW a10⟩
theorem e_blind (G : GT) (h : eH) (as : List eV) : FrameBlind (e_Pc G h as) := fun a U g mk q => ⟨q.1, q.2.1, e_X.warm (s := U) (U := U.calling g mk a) (State.WarmedH.refl U) q.2.2.1, q.2.2.2⟩
def e_EOK (l : Launch) (G : GT) (d : Nat) (E : eE) : Prop := ∀ (y : Nat) (as : List eV) (h : eH) (o : eO), y ≠ 0 → E y as h = some o → e_cn h ≤ e_cn o.2.2 ∧ e_sl h ≤ e_sl o.2.2 ∧ e_Met l G d y as h o
def e_End (G : GT) (M : MT) (y : Nat) (out : eO) : Prop := match M with
  | (p, l, e, R, s, m, args, below, meth, c, Q, c0, s0) =>
    (∀ (pc n : Nat) (H : Heap) (ls : Array Slot) (locs : List Loc) (cells slots : Nat), out.1 = 1 → out.2.1 = .inl n → (rt y = some .int ∨ (rt y = some .boolean ∧ n ≤ 1)) → decode (cb y) pc = .ok (.ireturn, 1) → e_HR G s out.2.2 H locs → cells + c0 = e_cn out.2.2 → slots + s0 = e_sl out.2.2 → W p l e R s m args below meth c H locs cells slots Q (F0 m pc ls [.int (giv G n)])) ∧
    (∀ (pc n : Nat) (H : Heap) (ls : Array Slot) (locs : List Loc) (cells slots : Nat), out.1 = 1 → out.2.1 = .inr (.inl n) → rt y = some .long → decode (cb y) pc = .ok (.lreturn, 1) → e_HR G s out.2.2 H locs → cells + c0 = e_cn out.2.2 → slots + s0 = e_sl out.2.2 → W p l e R s m args below meth c H locs cells slots Q (F0 m pc ls [.long (lN n)])) ∧
    (∀ (pc n : Nat) (H : Heap) (ls : Array Slot) (locs : List Loc) (cells slots : Nat), out.1 = 1 → out.2.1 = .inr (.inr n) → (∃ t, rt y = some (.array t)) → decode (cb y) pc = .ok (.areturn, 1) → e_HR G s out.2.2 H locs → cells + c0 = e_cn out.2.2 → slots + s0 = e_sl out.2.2 → W p l e R s m args below meth c H locs cells slots Q (F0 m pc ls [cV G (.inr (.inr n))])) ∧
    (∀ (pc : Nat) (H : Heap) (ls : Array Slot) (locs : List Loc) (cells slots : Nat), out.1 = 0 → rt y = none → decode (cb y) pc = .ok (.return_, 1) → e_HR G s out.2.2 H locs → cells + c0 = e_cn out.2.2 → slots + s0 = e_sl out.2.2 → W p l e R s m args below meth c H locs cells slots Q (F0 m pc ls [])) ∧
    (2 ≤ out.1 → Q = vx_MQ below (e_Qc G out) (e_Xc G out) args s (e_cn out.2.2 - c0) (e_sl out.2.2 - s0) (gF G))
def e_S (y pc d : Nat) (f : eE → eB → eG → eR) : Prop := ∀ (G : GT) (B : eB) (M : MT) (out : eO) (E : eE) (g : eG) (r : eG ⊕ eO), e_N G B M y d out → e_EOK M.2.1 G d E → e_End G M y out → g.1 = pc → f E B g = some r →
  (∃ g2, r = .inl g2 ∧ (e_cn g2.2.2.2 ≤ e_cn out.2.2 → e_sl g2.2.2.2 ≤ e_sl out.2.2 → e_W G M y g2 → e_W G M y g)) ∨ (∃ o, r = .inr o ∧ (o = out → e_W G M y g))
theorem e_P.S {y pc d : Nat} {f : eE → eB → eG → eR} (h : e_P y pc f) : e_S y pc d f := fun G B M out E g r N _ _ hpc hf => Or.inl (h G B M d out E g r N hpc hf)
theorem s_no {y pc d a b c9 : Nat} : e_S y pc d (f_no a b c9) := fun G B M out E g r N _ _ hpc hf => by cases hf
/-! the ends of a body -/
theorem e_BWof {G : GT} {s t : State} {h : eH} {H : Heap} {locs : List Loc} (hH : e_HR G s h H locs) (h1 : gb G ≤ s.heap.size) (h2 : ∀ q, q < gb G → s.heap[q]? = (gH G)[q]?) (ht : t.heap = H) : e_BW G h t.heap ∧ s.heap.size ≤ t.heap.size := by
  rw [ht]
  exact ⟨⟨hH.1, hH.2.1, e_below hH.2.2 h1 h2⟩, hH.2.2.1⟩
theorem e_End_body {G : GT} {B : eB} {p : Program} {l : Launch} {e : Env} {R : Room} {s : State} {m : MethodId} {args : Array Value} {below : List Frame} {meth : Method} {c : Code} {c0 s0 y d : Nat} {out : eO} {Q : State → Prop}
    (N : e_N G B (p, l, e, R, s, m, args, below, meth, c, Q, c0, s0) y d out) (hr : meth.sig.returnType = rt y) (hQ : Q = vx_MQ below (e_Qc G out) (e_Xc G out) args s (e_cn out.2.2 - c0) (e_sl out.2.2 - s0) (gF G)) : e_End G (p, l, e, R, s, m, args, below, meth, c, Q, c0, s0) y out := by
  subst hQ
  obtain ⟨hx, hb, hml, hown, hts, hX, hG, hlk, hin, hsh, hroom, hfr, htr, htab, hscr⟩ := N
  refine ⟨?_, ?_, ?_, ?_, fun _ => rfl⟩
  · intro pc n H ls locs cells slots h1 h2 h3 hd hH hc hs
    obtain rfl : cells = e_cn out.2.2 - c0 := by omega
    obtain rfl : slots = e_sl out.2.2 - s0 := by omega
    refine vx_ret ?_
    have hq : ∀ t : State, t.heap = H → s.WarmedH t.vm → e_Qc G out args s (.returned (some (.int (giv G n)))) t := fun t ht _ => ⟨Or.inr ⟨h1, by rw [h2]; rfl⟩, e_BWof hH hsh.1 hsh.2.2 ht⟩
    rcases h3 with h3 | ⟨h3, h4⟩
    · exact W.iret hx hb (hr.trans h3) hq (fun q hq => hH.2.2.2.2 q hq) hd
    · refine W.zret hx hb (hr.trans h3) ?_ hq (fun q hq => hH.2.2.2.2 q hq) hd
      rw [hG.2.1 n (by omega)]
      have : n = 0 ∨ n = 1 := by omega
      rcases this with rfl | rfl <;> rfl
  · intro pc n H ls locs cells slots h1 h2 h3 hd hH hc hs
    obtain rfl : cells = e_cn out.2.2 - c0 := by omega
    obtain rfl : slots = e_sl out.2.2 - s0 := by omega
    refine vx_ret ?_
    exact W.lret hx hb (hr.trans h3) (fun t ht _ => ⟨Or.inr ⟨h1, by rw [h2]; rfl⟩, e_BWof hH hsh.1 hsh.2.2 ht⟩) (fun q hq => hH.2.2.2.2 q hq) hd
  · intro pc n H ls locs cells slots h1 h2 h3 hd hH hc hs
    obtain rfl : cells = e_cn out.2.2 - c0 := by omega
    obtain rfl : slots = e_sl out.2.2 - s0 := by omega
    obtain ⟨t, h3⟩ := h3
    refine vx_ret ?_
    exact W.aret hx hb (hr.trans h3) (Or.inr ⟨t, rfl⟩) (by cases n with | zero => exact Or.inl rfl | succ k => exact Or.inr ⟨_, rfl⟩) (fun t ht _ => ⟨Or.inr ⟨h1, by rw [h2]⟩, e_BWof hH hsh.1 hsh.2.2 ht⟩) (fun q hq => hH.2.2.2.2 q hq) hd
  · intro pc H ls locs cells slots h1 h3 hd hH hc hs
    obtain rfl : cells = e_cn out.2.2 - c0 := by omega
    obtain rfl : slots = e_sl out.2.2 - s0 := by omega
    refine vx_ret ?_
    exact W.vret hx hb (hr.trans h3) (fun t ht _ => ⟨Or.inl ⟨h1, rfl⟩, e_BWof hH hsh.1 hsh.2.2 ht⟩) (fun q hq => hH.2.2.2.2 q hq) hd
theorem s_iret {y pc d a b c9 : Nat} (hrt : (a = 0 ∧ rt y = some .int) ∨ (a = 1 ∧ rt y = some .boolean)) (hd : decode (cb y) pc = .ok (.ireturn, 1)) : e_S y pc d (f_iret a b c9) := by
  intro G B M out E g r N hE hEnd hpc hf
  obtain ⟨p, l, e, R, s, m, args, below, meth, c, Q, c0, s0⟩ := M
  obtain ⟨pc', lo, st, h⟩ := g
  obtain rfl : pc' = pc := hpc
  unfold f_iret at hf
  split at hf
  · rename_i p9 l9 x st2 h9 heq
    cases heq
    cases hg : (st2.isEmpty && (Nat.beq a 0 || Nat.ble x 1)) with
    | false => rw [hg] at hf; cases hf
    | true =>
      rw [hg] at hf
      cases hf
      simp only [Bool.and_eq_true, Bool.or_eq_true] at hg
      have hst : st2 = [] := List.isEmpty_iff.mp hg.1
      subst hst
      refine Or.inr ⟨_, rfl, fun ho => ?_⟩
      subst ho
      intro H ls locs cells slots hH hl hc hs
      refine hEnd.1 pc' x H ls locs cells slots rfl rfl ?_ hd hH hc hs
      rcases hrt with ⟨h1, h2⟩ | ⟨h1, h2⟩
      · exact Or.inl h2
      · rcases hg.2 with h3 | h3
        · have := Nat.eq_of_beq_eq_true h3
          omega
        · exact Or.inr ⟨h2, Nat.le_of_ble_eq_true h3⟩
  · cases hf
theorem s_lret {y pc d a b c9 : Nat} (hrt : rt y = some .long) (hd : decode (cb y) pc = .ok (.lreturn, 1)) : e_S y pc d (f_lret a b c9) := by
  intro G B M out E g r N hE hEnd hpc hf
  obtain ⟨p, l, e, R, s, m, args, below, meth, c, Q, c0, s0⟩ := M
  obtain ⟨pc', lo, st, h⟩ := g
  obtain rfl : pc' = pc := hpc
  unfold f_lret at hf
  split at hf
  · rename_i p9 l9 x st2 h9 heq
    cases heq
    cases hg : st2.isEmpty with
    | false => rw [hg] at hf; cases hf
    | true =>
      rw [hg] at hf
      cases hf
      have hst : st2 = [] := List.isEmpty_iff.mp hg
      subst hst
      refine Or.inr ⟨_, rfl, fun ho => ?_⟩
      subst ho
      intro H ls locs cells slots hH hl hc hs
      exact hEnd.2.1 pc' x H ls locs cells slots rfl rfl hrt hd hH hc hs
  · cases hf
theorem s_aret {y pc d a b c9 : Nat} (hrt : ∃ t, rt y = some (.array t)) (hd : decode (cb y) pc = .ok (.areturn, 1)) : e_S y pc d (f_aret a b c9) := by
  intro G B M out E g r N hE hEnd hpc hf
  obtain ⟨p, l, e, R, s, m, args, below, meth, c, Q, c0, s0⟩ := M
  obtain ⟨pc', lo, st, h⟩ := g
  obtain rfl : pc' = pc := hpc
  unfold f_aret at hf
  split at hf
  · rename_i p9 l9 x st2 h9 heq
    cases heq
    cases hg : st2.isEmpty with
    | false => rw [hg] at hf; cases hf
    | true =>
      rw [hg] at hf
      cases hf
      have hst : st2 = [] := List.isEmpty_iff.mp hg
      subst hst
      refine Or.inr ⟨_, rfl, fun ho => ?_⟩
      subst ho
      intro H ls locs cells slots hH hl hc hs
      exact hEnd.2.2.1 pc' x H ls locs cells slots rfl rfl hrt hd hH hc hs
  · cases hf
theorem s_ret {y pc d a b c9 : Nat} (hrt : rt y = none) (hd : decode (cb y) pc = .ok (.return_, 1)) : e_S y pc d (f_ret a b c9) := by
  intro G B M out E g r N hE hEnd hpc hf
  obtain ⟨p, l, e, R, s, m, args, below, meth, c, Q, c0, s0⟩ := M
  obtain ⟨pc', lo, st, h⟩ := g
  obtain rfl : pc' = pc := hpc
  unfold f_ret at hf
  dsimp only at hf
  cases hg : st.isEmpty with
  | false => rw [hg] at hf; cases hf
  | true =>
    rw [hg] at hf
    cases hf
    have hst : st = [] := List.isEmpty_iff.mp hg
    subst hst
    refine Or.inr ⟨_, rfl, fun ho => ?_⟩
    subst ho
    intro H ls locs cells slots hH hl hc hs
    exact hEnd.2.2.2.1 pc' H ls locs cells slots rfl hrt hd hH hc hs
/-! throws -/
def e_thok (own : String) (ic : Nat) (X : String) (ix : Nat) (bytes : ByteArray) : Prop := ∀ w ∈ (e_tw own ic X ix bytes).filter vx_no, (w ∈ GW ∨ w ∈ e_nw) ∧ vx_ot w = true
theorem e_thok_of {own : String} {ic : Nat} {X : String} {ix : Nat} {bytes : ByteArray} (h : ((e_tw own ic X ix bytes).filter vx_no).all (fun w => decide (w ∈ lw_tbl) && (goodWord w || decide (w ∈ e_nw)) && vx_ot w) = true) : e_thok own ic X ix bytes := by
  intro w hw
  have h1 := List.all_eq_true.mp h w hw
  simp only [Bool.and_eq_true, Bool.or_eq_true, decide_eq_true_eq] at h1
  refine ⟨?_, h1.2⟩
  rcases h1.1.2 with h2 | h2
  · exact Or.inl (List.mem_filter.mpr ⟨h1.1.1, h2⟩)
  · exact Or.inr h2
theorem i_throw {a b c9 : Nat} {E : eE} {B : eB} {pc : Nat} {lo : List (Nat × eV)} {st : List eV} {h : eH} {r : eG ⊕ eO} (hf : f_throw a b c9 E B (pc, lo, st, h) = some r) : e_cat st ≤ 8 ∧ r = .inr (a + 2, .inl 0, e_thr h) := by
  unfold f_throw at hf
  dsimp only at hf
  cases hg : Nat.ble (e_cat st) 8 with
  | false => rw [hg] at hf; cases hf
  | true =>
    rw [hg] at hf
    cases hf
    exact ⟨Nat.le_of_ble_eq_true hg, rfl⟩
theorem e_fit (k : Nat) : Bundle.fit (e_exn k) = true := by
  unfold e_exn
  split <;> decide +kernel
theorem s_throw {y pc d a b c9 ik ic ix w1 w2 : Nat} {own : String} {bytes : ByteArray} {tx : String} (hcl : (nm y).cls = own) (hmh : mh y = []) (hb0 : decode bytes 0 = .ok (.aload_n 0, 1)) (hb1 : decode bytes 1 = .ok (.aload_n 1, 1)) (hb2 : decode bytes 2 = .ok (.invokespecial ix, 3)) (hb5 : decode bytes 5 = .ok (.return_, 1)) (hth : e_thok own ic (e_exn a) ix bytes)
    (hw1 : Cond.classLink own ik (e_exn a) ∈ GW) (hw2 : Cond.initialized (e_exn a) ∈ GW) (hst : e_strs[b]? = some (own, c9, tx))
    (d0 : decode (cb y) pc = .ok (.new ik, 3)) (d3 : decode (cb y) (pc + 3) = .ok (.dup, 1)) (d4 : (decode (cb y) (pc + 4) = .ok (.ldc c9, 2) ∧ decode (cb y) (pc + 6) = .ok (.invokespecial ic, 3) ∧ decode (cb y) (pc + 9) = .ok (.athrow, 1)) ∨ (decode (cb y) (pc + 4) = .ok (.ldc_w c9, 3) ∧ decode (cb y) (pc + 7) = .ok (.invokespecial ic, 3) ∧ decode (cb y) (pc + 10) = .ok (.athrow, 1))) : e_S y pc d (f_throw a b c9) := by
  intro G B M out E g r N hE hEnd hpc hf
  obtain ⟨p, l, e, R, s, m, args, below, meth, c, Q, c0, s0⟩ := M
  obtain ⟨hx, hb, hml, hown, hts, hX, hG, hlk, hin, hsh, hroom, hfr, htr, htab, hscr⟩ := N
  obtain ⟨pc', lo, st, h⟩ := g
  obtain rfl : pc' = pc := hpc
  obtain ⟨hcat, rfl⟩ := i_throw hf
  refine Or.inr ⟨_, rfl, fun ho => ?_⟩
  subst ho
  have hQ := hEnd.2.2.2.2 (by show 2 ≤ a + 2; omega)
  rw [hQ]
  intro H ls locs cells slots hH hl hc hs
  rw [hcl] at hown
  have hc2 : cells + c0 = e_cn h := hc
  have hs2 : slots + s0 = e_sl h := hs
  have hr1 : e_cn h + 1 ≤ R.cells + c0 := hroom.1
  have hr2 : e_sl h + 6 ≤ R.slots + s0 := hroom.2
  have hcs := e_cat_eq G st
  have hout : ∀ (x : ExceptionTableEntry), x ∈ c.exceptionTable.toList → False := by
    intro x hx9
    rw [htab, hmh] at hx9
    cases hx9
  have hkZ : ∀ q : Nat, q < (gH G).size → ¬ gF G q → s.heap[q]? = (gH G)[q]? := fun q hq _ => hsh.2.2 q (by rw [← hG.2.2.2.1]; exact hq)
  have hU := hX.2.2.2.1.kept hkZ
  have hN := hX.2.2.2.2.1.kept hkZ
  have hat : ∀ w ∈ (e_tw own ic (e_exn a) ix bytes).filter vx_no, w.before args s = true := fun w hw => by
    rcases (hth w hw).1 with h1 | h1
    · exact hts w h1
    · exact va_Nw.use (e_nw_tab w h1) (hX.2.2.2.2.2.2.1 w h1)
  have hgd : ∀ w ∈ Cond.classLink own ik (e_exn a) :: Cond.initialized (e_exn a) :: (e_tw own ic (e_exn a) ix bytes).filter vx_no, vx_ot w = true := by
    intro w hw
    rcases List.mem_cons.mp hw with rfl | hw
    · exact Bool.or_eq_true_iff.mpr (Or.inr (List.mem_filter.mp hw1).2)
    · rcases List.mem_cons.mp hw with rfl | hw
      · exact Bool.or_eq_true_iff.mpr (Or.inr (List.mem_filter.mp hw2).2)
      · exact (hth w hw).2
  have hXC : ∀ t : State, s.vm.Alike t.vm → H.size ≤ t.heap.size → (∀ q : Nat, q < H.size → t.heap[q]? = H[q]?) → e_Xc G (a + 2, .inl 0, e_thr h) (e_exn a) s t := fun t _ h1 h2 =>
    ⟨⟨a, rfl, rfl⟩, ⟨hH.1.kept (fun k9 x hx9 => h2 x.1 ((hH.1 k9 x hx9).lt)), hH.2.1, fun q hq => (h2 q (Nat.lt_of_lt_of_le hq (Nat.le_trans hsh.1 hH.2.2.1))).trans (e_below hH.2.2 hsh.1 hsh.2.2 q hq)⟩, Nat.le_trans hH.2.2.1 h1⟩
  have hmc : cells + 1 ≤ e_cn (e_thr h) - c0 := by show cells + 1 ≤ e_cn h + 1 - c0; omega
  have hms : slots + 6 ≤ e_sl (e_thr h) - s0 := by show slots + 6 ≤ e_sl h + 6 - s0; omega
  have hsz : ls.size = c.maxLocals := by rw [hml]; exact hl.1
  rcases d4 with ⟨d4, d6, d9⟩ | ⟨d4, d6, d9⟩
  · exact e_throwS hx hb htr hb0 hb1 hb2 hb5 hown (e_fit a) (hts _ hw1) (hts _ hw2) (hX.2.2.2.2.2.1 b _ hst) hat hgd hU hN hH.2.2 hsz d0 d3 d4 d6 d9 (fun x hx9 => (hout x hx9).elim) (by omega) (by rw [hcs]; omega) (by omega) (by omega) hlk hXC (fun z hz => hH.2.2.2.2 z hz) hmc hms
  · exact e_throwSW hx hb htr hb0 hb1 hb2 hb5 hown (e_fit a) (hts _ hw1) (hts _ hw2) (hX.2.2.2.2.2.1 b _ hst) hat hgd hU hN hH.2.2 hsz d0 d3 d4 d6 d9 (fun x hx9 => (hout x hx9).elim) (by omega) (by rw [hcs]; omega) (by omega) (by omega) hlk hXC (fun z hz => hH.2.2.2.2 z hz) hmc hms
