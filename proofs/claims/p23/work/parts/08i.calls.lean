/-! ===== calls ===== -/
/-- the machine may call what the engine has run -/
def e_Rn (G : GT) (M : MT) (y pc : Nat) (lo : List (Nat × eV)) (st rest : List eV) (h : eH) (o : eO) : Prop := match M with
  | (p, l, e, R, s, m, args, below, meth, c, _, c0, s0) => ∀ (H : Heap) (ls : Array Slot) (locs : List Loc) (cells slots : Nat), e_HR G s h H locs → lv_has ls (ml y) (cLo G lo) → cells + c0 = e_cn h → slots + s0 = e_sl h → e_cn o.2.2 ≤ R.cells + c0 → e_sl o.2.2 ≤ R.slots + s0 → H.size ≤ gb G + e_cn h →
      ∃ A : Array Value, vx_Run p l e R s m args below meth c H locs cells slots (e_cn o.2.2 - e_cn h) (e_sl o.2.2 - e_sl h) (F0 m pc ls (st.map (cV G))) (rest.map (cV G)) (e_Qc G o A) (e_Xc G o) (gF G)
section CallS
variable {G : GT} {B : eB} {p : Program} {l : Launch} {e : Env} {R : Room} {s : State} {m : MethodId} {args : Array Value} {below : List Frame} {meth : Method} {c : Code} {Q : State → Prop} {c0 s0 y d pc : Nat} {out o : eO} {lo : List (Nat × eV)} {st rest : List eV} {h : eH}
theorem e_fits (N : e_N G B (p, l, e, R, s, m, args, below, meth, c, Q, c0, s0) y d out) {H : Heap} {cells : Nat} (hc : cells + c0 = e_cn h) (hz : H.size ≤ s.heap.size + cells) : H.size ≤ gb G + e_cn h := by
  obtain ⟨hx, hb, hml, hown, hts, hX, hG, hlk, hin, hsh, hroom, hfr, htr, htab, hscr⟩ := N
  have := hsh.2.1
  omega
theorem e_cont (N : e_N G B (p, l, e, R, s, m, args, below, meth, c, Q, c0, s0) y d out) {A : Array Value} {H : Heap} {locs : List Loc} {cells slots mc ms : Nat} {ls : Array Slot} {st0 r0 : List Value} (hH : e_HR G s h H locs) (ho : o.1 = 0 ∨ o.1 = 1)
    (hr : vx_Run p l e R s m args below meth c H locs cells slots mc ms (F0 m pc ls st0) r0 (e_Qc G o A) (e_Xc G o) (gF G))
    (k : ∀ (H1 : Heap) (locs1 : List Loc), e_HR G s o.2.2 H1 locs1 → W p l e R s m args below meth c H1 locs1 (cells + mc) (slots + ms) Q (F0 m (pc + 3) ls ((if o.1 = 0 then [] else [cV G o.2.1]) ++ r0))) : W p l e R s m args below meth c H locs cells slots Q (F0 m pc ls st0) := by
  obtain ⟨hx, hb, hml, hown, hts, hX, hG, hlk, hin, hsh, hroom, hfr, htr, htab, hscr⟩ := N
  intro T hT X
  rcases hr T hT X with ⟨v, st₀, t, T', L, h0, X', hL, e1, e2, ⟨hv, hB, hsz⟩, stp⟩ | ⟨q, st₀, t, T', L, E, ce, h0, X', hL, e1, e2, ⟨⟨k9, hk9, -⟩, -⟩, -⟩
  · have hHR : e_HR G s o.2.2 T'.heap (locs ++ L) := by
      rw [e1]
      refine ⟨hB.1, hB.2.1, ⟨Nat.le_trans hH.2.2.1 (by rw [← h0]; exact hsz), fun q h1 h2 => ?_, fun z hz => ?_⟩⟩
      · have hq : q < gb G := Nat.lt_of_not_le h2
        rw [hB.2.2 q hq, hsh.2.2 q hq]
      · rcases List.mem_append.mp hz with h9 | h9
        · exact hH.2.2.2.2 z h9
        · exact hL z h9
    obtain ⟨t2, a1, b1⟩ := k T'.heap (locs ++ L) hHR T' rfl X'
    refine ⟨t2, stp t2 ?_, b1⟩
    have hvv : v.toList ++ r0 = (if o.1 = 0 then [] else [cV G o.2.1]) ++ r0 := by
      rcases hv with ⟨h1, h2⟩ | ⟨h1, h2⟩
      · cases h2
        rw [if_pos h1]
        rfl
      · cases h2
        rw [if_neg (by omega)]
        rfl
    show Steps p.tables e below (T'.setTop (F0 m (pc + 3) ls (v.toList ++ r0))) t2
    rw [hvv]
    exact a1
  · omega
theorem e_toss (N : e_N G B (p, l, e, R, s, m, args, below, meth, c, Q, c0, s0) y d out) {A : Array Value} {H : Heap} {locs : List Loc} {cells slots mc ms : Nat} {ls : Array Slot} {st0 r0 : List Value} {k9 : Nat} (hH : e_HR G s h H locs) (ho : o.1 = k9 + 2)
    (hr : vx_Run p l e R s m args below meth c H locs cells slots mc ms (F0 m pc ls st0) r0 (e_Qc G o A) (e_Xc G o) (gF G))
    (k : ∀ (q : Addr) (ce : Cell) (H1 : Heap) (locs1 : List Loc), e_HR G s o.2.2 H1 locs1 → H1[q]? = some ce → ce.vm = .none → s.vm.findClass (e_exn k9) = some ce.cls → vx_W p l e R s m args below meth c H1 locs1 (cells + mc) (slots + ms) Q (F0 m pc ls r0) q) : W p l e R s m args below meth c H locs cells slots Q (F0 m pc ls st0) := by
  obtain ⟨hx, hb, hml, hown, hts, hX, hG, hlk, hin, hsh, hroom, hfr, htr, htab, hscr⟩ := N
  intro T hT X
  rcases hr T hT X with ⟨v, st₀, t, T', L, h0, X', hL, e1, e2, ⟨hv, hB, hsz⟩, stp⟩ | ⟨q, st₀, t, T', L, E, ce, h0, X', hL, e1, e2, ⟨⟨k8, hk8, hE⟩, hB, hsz⟩, hce, hcv, hcl, stp⟩
  · rcases hv with ⟨h1, -⟩ | ⟨h1, -⟩ <;> omega
  · have hHR : e_HR G s o.2.2 T'.heap (locs ++ L) := by
      rw [e1]
      refine ⟨hB.1, hB.2.1, ⟨Nat.le_trans hH.2.2.1 (by rw [← h0]; exact hsz), fun q h1 h2 => ?_, fun z hz => ?_⟩⟩
      · have hq : q < gb G := Nat.lt_of_not_le h2
        rw [hB.2.2 q hq, hsh.2.2 q hq]
      · rcases List.mem_append.mp hz with h9 | h9
        · exact hH.2.2.2.2 z h9
        · exact hL z h9
    have hkk : k8 = k9 := by omega
    subst hkk
    obtain ⟨t2, a1, b1⟩ := k q ce T'.heap (locs ++ L) hHR (by rw [e1]; exact hce) hcv (by rw [← hE]; exact hcl) T' rfl X'
    exact ⟨t2, stp.trans a1, b1⟩
theorem e_fin {r : eG ⊕ eO} (N : e_N G B (p, l, e, R, s, m, args, below, meth, c, Q, c0, s0) y d out) (hEnd : e_End G (p, l, e, R, s, m, args, below, meth, c, Q, c0, s0) y out) (hcn : e_cn h ≤ e_cn o.2.2) (hsl : e_sl h ≤ e_sl o.2.2) (hmh : mh y = [])
    (hRn : e_Rn G (p, l, e, R, s, m, args, below, meth, c, Q, c0, s0) y pc lo st rest h o) (hbk : e_back pc lo rest (some o) = some r) :
    (∃ g2, r = .inl g2 ∧ (e_cn g2.2.2.2 ≤ e_cn out.2.2 → e_sl g2.2.2.2 ≤ e_sl out.2.2 → e_W G (p, l, e, R, s, m, args, below, meth, c, Q, c0, s0) y g2 → e_W G (p, l, e, R, s, m, args, below, meth, c, Q, c0, s0) y (pc, lo, st, h))) ∨ (∃ o2, r = .inr o2 ∧ (o2 = out → e_W G (p, l, e, R, s, m, args, below, meth, c, Q, c0, s0) y (pc, lo, st, h))) := by
  have N0 := N
  obtain ⟨hx, hb, hml, hown, hts, hX, hG, hlk, hin, hsh, hroom, hfr, htr, htab, hscr⟩ := N
  obtain ⟨tag, v, h2⟩ := o
  match tag, hRn, hbk with
  | 0, hRn, hbk =>
    cases hbk
    refine Or.inl ⟨_, rfl, fun hcF hsF k => ?_⟩
    intro H ls locs cells slots hH hl hc hs
    refine e_sized fun hz => ?_
    have hc2 : cells + c0 = e_cn h := hc
    have hs2 : slots + s0 = e_sl h := hs
    have hcF2 : e_cn h2 ≤ e_cn out.2.2 := hcF
    have hsF2 : e_sl h2 ≤ e_sl out.2.2 := hsF
    have hcn2 : e_cn h ≤ e_cn h2 := hcn
    have hsl2 : e_sl h ≤ e_sl h2 := hsl
    obtain ⟨A, hr⟩ := hRn H ls locs cells slots hH hl hc hs (Nat.le_trans hcF2 hroom.1) (Nat.le_trans hsF2 hroom.2) (e_fits N0 hc2 hz)
    refine e_cont N0 (o := (0, v, h2)) hH (Or.inl rfl) hr (fun H1 locs1 hH1 => ?_)
    exact k H1 ls locs1 _ _ hH1 hl (by show cells + (e_cn h2 - e_cn h) + c0 = e_cn h2; omega) (by show slots + (e_sl h2 - e_sl h) + s0 = e_sl h2; omega)
  | 1, hRn, hbk =>
    cases hbk
    refine Or.inl ⟨_, rfl, fun hcF hsF k => ?_⟩
    intro H ls locs cells slots hH hl hc hs
    refine e_sized fun hz => ?_
    have hc2 : cells + c0 = e_cn h := hc
    have hs2 : slots + s0 = e_sl h := hs
    have hcF2 : e_cn h2 ≤ e_cn out.2.2 := hcF
    have hsF2 : e_sl h2 ≤ e_sl out.2.2 := hsF
    have hcn2 : e_cn h ≤ e_cn h2 := hcn
    have hsl2 : e_sl h ≤ e_sl h2 := hsl
    obtain ⟨A, hr⟩ := hRn H ls locs cells slots hH hl hc hs (Nat.le_trans hcF2 hroom.1) (Nat.le_trans hsF2 hroom.2) (e_fits N0 hc2 hz)
    refine e_cont N0 (o := (1, v, h2)) hH (Or.inr rfl) hr (fun H1 locs1 hH1 => ?_)
    exact k H1 ls locs1 _ _ hH1 hl (by show cells + (e_cn h2 - e_cn h) + c0 = e_cn h2; omega) (by show slots + (e_sl h2 - e_sl h) + s0 = e_sl h2; omega)
  | k9 + 2, hRn, hbk =>
    cases hbk
    refine Or.inr ⟨_, rfl, fun ho => ?_⟩
    subst ho
    have hQ := hEnd.2.2.2.2 (by show 2 ≤ k9 + 2; omega)
    intro H ls locs cells slots hH hl hc hs
    refine e_sized fun hz => ?_
    have hc2 : cells + c0 = e_cn h := hc
    have hs2 : slots + s0 = e_sl h := hs
    have hcn2 : e_cn h ≤ e_cn h2 := hcn
    have hsl2 : e_sl h ≤ e_sl h2 := hsl
    obtain ⟨A, hr⟩ := hRn H ls locs cells slots hH hl hc hs hroom.1 hroom.2 (e_fits N0 hc2 hz)
    refine e_toss N0 (o := (k9 + 2, v, h2)) hH rfl hr (fun q ce H1 locs1 hH1 hce hcv hcl => ?_)
    rw [hQ]
    refine vx_out (fun x hx9 => ?_) hlk hce hcv hcl (fun t ht hal => ⟨⟨k9, rfl, rfl⟩, e_BWof hH1 hsh.1 hsh.2.2 ht⟩) (fun z hz => hH1.2.2.2.2 z hz) (by show cells + (e_cn h2 - e_cn h) ≤ e_cn h2 - c0; omega) (by show slots + (e_sl h2 - e_sl h) ≤ e_sl h2 - s0; omega)
    rw [htab, hmh] at hx9
    cases hx9
/-- what stands on the stack for a call -/
theorem e_stk {b : Nat} {as : List eV} (hlen : b ≤ st.length) (hrev : (st.take b).reverse = as) : st.map (cV G) = (as.map (cV G)).reverse ++ (st.drop b).map (cV G) ∧ as.length = b := by
  subst hrev
  constructor
  · rw [List.map_reverse, List.reverse_reverse, ← List.map_append, List.take_append_drop]
  · rw [List.length_reverse, List.length_take]
    omega
theorem e_pre (N : e_N G B (p, l, e, R, s, m, args, below, meth, c, Q, c0, s0) y d out) {H : Heap} {locs : List Loc} {as : List eV} (hH : e_HR G s h H locs) (hz : H.size ≤ gb G + e_cn h) {U : State} (hU : U.heap = H) (hW : s.WarmedH U.vm) : e_Pc G h as (as.map (cV G)).toArray U := by
  obtain ⟨hx, hb, hml, hown, hts, hX, hG, hlk, hin, hsh, hroom, hfr, htr, htab, hscr⟩ := N
  exact ⟨rfl, by rw [hU]; exact ⟨hH.1, hH.2.1, e_below hH.2.2 hsh.1 hsh.2.2⟩, e_X.warm hW hX, by rw [hU]; exact Nat.le_trans hsh.1 hH.2.2.1, by rw [hU]; exact hz⟩
theorem e_wsG {a : Nat} (hmh : mh a = []) (hw : Cond.code (nm a) (cb a) (ml a) (rt a) ∈ GW) : e_ws a = Cond.code (nm a) (cb a) (ml a) (rt a) :: GW ∧ GoodIn GW (e_ws a) := by
  have e : e_ws a = Cond.code (nm a) (cb a) (ml a) (rt a) :: GW := by unfold e_ws; rw [if_pos hmh]
  refine ⟨e, ?_⟩
  rw [e]
  intro w hw9
  rcases List.mem_cons.mp hw9 with rfl | hw9
  · exact GW_good hw
  · exact GW_good hw9
theorem e_wsGW {a : Nat} (hmh : ¬ mh a = []) (hw : Cond.codeWith (nm a) (cb a) (ml a) (rt a) (mh a) ∈ GW) : e_ws a = Cond.codeWith (nm a) (cb a) (ml a) (rt a) (mh a) :: GW ∧ GoodIn GW (e_ws a) := by
  have e : e_ws a = Cond.codeWith (nm a) (cb a) (ml a) (rt a) (mh a) :: GW := by unfold e_ws; rw [if_neg hmh]
  refine ⟨e, ?_⟩
  rw [e]
  intro w hw9
  rcases List.mem_cons.mp hw9 with rfl | hw9
  · exact GW_good hw
  · exact GW_good hw9
theorem e_good4 {a b c d : Cond} {ws : List Cond} (h1 : a ∈ GW) (h2 : b ∈ GW) (h3 : c ∈ GW) (h4 : d ∈ GW) (h : GoodIn GW ws) : GoodIn GW ([a, b, c, d] ++ ws) := by
  intro w hw
  rcases List.mem_append.mp hw with hw | hw
  · simp only [List.mem_cons, List.not_mem_nil, or_false] at hw
    rcases hw with rfl | rfl | rfl | rfl
    · exact GW_good h1
    · exact GW_good h2
    · exact GW_good h3
    · exact GW_good h4
  · exact h w hw
theorem e_good3 {a b c : Cond} {ws : List Cond} (h1 : a ∈ GW) (h2 : b ∈ GW) (h3 : c ∈ GW) (h : GoodIn GW ws) : GoodIn GW ([a, b, c] ++ ws) := by
  intro w hw
  rcases List.mem_append.mp hw with hw | hw
  · simp only [List.mem_cons, List.not_mem_nil, or_false] at hw
    rcases hw with rfl | rfl | rfl
    · exact GW_good h1
    · exact GW_good h2
    · exact GW_good h3
  · exact h w hw
theorem e_lvroom {ls : Array Slot} (hcat : e_cat rest ≤ 8) : 2 * (F0 m pc ls (st.map (cV G))).monitorRoom + ((rest.map (cV G)).map fun v => v.category).sum ≤ 8 := lv_room (by rw [e_cat_eq]; exact hcat)
def e_dsc (a n : Nat) : Prop := (nm a).cls ≠ "java/lang/invoke/MethodHandle" ∧ (nm a).cls ≠ "java/lang/invoke/VarHandle" ∧ (parseMethodDescriptor (nm a).desc).map (fun d => d.parameters.length) = some n
/-- a static method -/
theorem e_RnS (N : e_N G B (p, l, e, R, s, m, args, below, meth, c, Q, c0, s0) y d out) {a b c9 : Nat} {as : List eV} (hM : e_Met l G d a as h o) (hmh : mh a = []) (hw1 : Cond.methodLink (nm y).cls c9 (nm a) ∈ GW) (hw2 : Cond.static (nm a) ∈ GW) (hw4 : Cond.initialized (nm a).cls ∈ GW) (hw5 : Cond.code (nm a) (cb a) (ml a) (rt a) ∈ GW) (hds : e_dsc a b) (hm41 : ml a ≤ 41) (hd : decode (cb y) pc = .ok (.invokestatic c9, 3))
    (hlen : b ≤ st.length) (hcat : e_cat (st.drop b) ≤ 8) (hrev : (st.take b).reverse = as) (hcn : e_cn h ≤ e_cn o.2.2) (hsl : e_sl h ≤ e_sl o.2.2) : e_Rn G (p, l, e, R, s, m, args, below, meth, c, Q, c0, s0) y pc lo st (st.drop b) h o := by
  have N0 := N
  obtain ⟨hx, hb, hml, hown, hts, hX, hG, hlk, hin, hsh, hroom, hfr, htr, htab, hscr⟩ := N
  intro H ls locs cells slots hH hl hc hs hbc hbs hz
  obtain ⟨hstk, hal⟩ := e_stk (G := G) hlen hrev
  obtain ⟨we, wg⟩ := e_wsG hmh hw5
  have hc2 : cells + c0 = e_cn h := hc
  have hs2 : slots + s0 = e_sl h := hs
  refine ⟨_, vx_runS (As := as.map (cV G)) ⟨hx, hb, hml, hown, hts⟩ hM ⟨callB_of b hts wg we rfl rfl (hts _ hw4) (hts _ hw1) hds ⟨by show d + 10 + 1 ≤ R.frames; omega, by show 8 + (ml a + 11) + (60 * d + 200) ≤ R.locals; omega⟩, hts _ hw2⟩ ⟨e_blind G h as, fun U hU hW => e_pre N0 hH hz hU hW⟩ rfl (by rw [List.length_map]; exact hal) hl.1 hstk (e_lvroom hcat) hd ⟨?_, ?_⟩⟩
  · show cells + (e_cn o.2.2 - e_cn h) ≤ R.cells; omega
  · show slots + (e_sl o.2.2 - e_sl h) ≤ R.slots; omega
/-- a static method with handlers of its own -/
theorem e_RnSX (N : e_N G B (p, l, e, R, s, m, args, below, meth, c, Q, c0, s0) y d out) {a b c9 : Nat} {as : List eV} (hM : e_Met l G d a as h o) (hmh : ¬ mh a = []) (hw1 : Cond.methodLink (nm y).cls c9 (nm a) ∈ GW) (hw2 : Cond.static (nm a) ∈ GW) (hw4 : Cond.initialized (nm a).cls ∈ GW) (hw5 : Cond.codeWith (nm a) (cb a) (ml a) (rt a) (mh a) ∈ GW) (hds : e_dsc a b) (hm41 : ml a ≤ 41) (hd : decode (cb y) pc = .ok (.invokestatic c9, 3))
    (hlen : b ≤ st.length) (hcat : e_cat (st.drop b) ≤ 8) (hrev : (st.take b).reverse = as) (hcn : e_cn h ≤ e_cn o.2.2) (hsl : e_sl h ≤ e_sl o.2.2) : e_Rn G (p, l, e, R, s, m, args, below, meth, c, Q, c0, s0) y pc lo st (st.drop b) h o := by
  have N0 := N
  obtain ⟨hx, hb, hml, hown, hts, hX, hG, hlk, hin, hsh, hroom, hfr, htr, htab, hscr⟩ := N
  intro H ls locs cells slots hH hl hc hs hbc hbs hz
  obtain ⟨hstk, hal⟩ := e_stk (G := G) hlen hrev
  obtain ⟨we, wg⟩ := e_wsGW hmh hw5
  have hc2 : cells + c0 = e_cn h := hc
  have hs2 : slots + s0 = e_sl h := hs
  refine ⟨_, vx_runSX (As := as.map (cV G)) (hh := mh a) ⟨hx, hb, hml, hown, hts⟩ hM (vx_cwSW b hts (e_good3 hw1 hw2 hw4 wg) we rfl rfl hds ⟨by show d + 10 + 1 ≤ R.frames; omega, by show 8 + (ml a + 11) + (60 * d + 200) ≤ R.locals; omega⟩) ⟨e_blind G h as, fun U hU hW => e_pre N0 hH hz hU hW⟩ rfl (by rw [List.length_map]; exact hal) hl.1 hstk (e_lvroom hcat) hd ⟨?_, ?_⟩⟩
  · show cells + (e_cn o.2.2 - e_cn h) ≤ R.cells; omega
  · show slots + (e_sl o.2.2 - e_sl h) ≤ R.slots; omega
/-- a method of a known thing -/
theorem e_RnV (N : e_N G B (p, l, e, R, s, m, args, below, meth, c, Q, c0, s0) y d out) {a b c9 r0 ci : Nat} {T : u_T} {n : Nat} {as : List eV} (hM : e_Met l G d a (.inr (.inr (r0 + 1)) :: as) h o) (hmh : mh a = []) (hw1 : Cond.methodLink (nm y).cls c9 (nm a) ∈ GW) (hw2 : Cond.instanceMethod (nm a) ∈ GW) (hw3 : Cond.selects (nm a).cls (nm a) (nm a) ∈ GW) (hw4 : Cond.initialized (nm a).cls ∈ GW) (hw5 : Cond.code (nm a) (cb a) (ml a) (rt a) ∈ GW) (hds : e_dsc a (b - 1)) (hm41 : ml a ≤ 41) (hci : ci < 100) (hcl : vwCl[ci]? = some ((nm a).cls, T, n)) (hd : decode (cb y) pc = .ok (.invokevirtual c9, 3))
    (hlen : b ≤ st.length) (hcat : e_cat (st.drop b) ≤ 8) (hrev : (st.take b).reverse = .inr (.inr (r0 + 1)) :: as) (hr0 : r0 < e_sz h) (hk : (e_get h r0).1 = ci) (hcn : e_cn h ≤ e_cn o.2.2) (hsl : e_sl h ≤ e_sl o.2.2) : e_Rn G (p, l, e, R, s, m, args, below, meth, c, Q, c0, s0) y pc lo st (st.drop b) h o := by
  have N0 := N
  obtain ⟨hx, hb, hml, hown, hts, hX, hG, hlk, hin, hsh, hroom, hfr, htr, htab, hscr⟩ := N
  intro H ls locs cells slots hH hl hc hs hbc hbs hz
  obtain ⟨hstk, hal⟩ := e_stk (G := G) hlen hrev
  obtain ⟨we, wg⟩ := e_wsG hmh hw5
  have hc2 : cells + c0 = e_cn h := hc
  have hs2 : slots + s0 = e_sl h := hs
  have hal2 : as.length = b - 1 := by rw [List.length_cons] at hal; omega
  have hrv : ∃ cell : Cell, H[gad G r0]? = some cell ∧ cell.vm.isStatics = false ∧ s.vm.findClass (nm a).cls = some cell.cls := by
    generalize hge : e_get h r0 = x at hk
    obtain ⟨k9, n9, f9⟩ := x
    dsimp only at hk
    subst hk
    exact va_recv hX.1 hH.1 hcl (by rw [cW_at hr0, hge, cE_obj hci])
  have hstk2 : st.map (cV G) = (as.map (cV G)).reverse ++ .ref (gad G r0) :: (st.drop b).map (cV G) := by
    rw [hstk, List.map_cons, List.reverse_cons, List.append_assoc]
    rfl
  refine ⟨_, vx_runV (As := as.map (cV G)) (C := (nm a).cls) ⟨hx, hb, hml, hown, hts⟩ hM (cwV (b - 1) hts (e_good4 hw1 hw2 hw3 hw4 wg) we rfl rfl ⟨rfl, hds⟩ ⟨by show d + 10 + 1 ≤ R.frames; omega, by show 8 + (ml a + 11) + (60 * d + 200) ≤ R.locals; omega⟩) ⟨e_blind G h _, hrv, fun U hU hW => e_pre N0 (as := .inr (.inr (r0 + 1)) :: as) hH hz hU hW⟩ rfl (by rw [List.length_map]; exact hal2) hl.1 hstk2 (e_lvroom hcat) hd ⟨?_, ?_⟩⟩
  · show cells + (e_cn o.2.2 - e_cn h) ≤ R.cells; omega
  · show slots + (e_sl o.2.2 - e_sl h) ≤ R.slots; omega
/-- a method of a text that lies there -/
theorem e_RnT (N : e_N G B (p, l, e, R, s, m, args, below, meth, c, Q, c0, s0) y d out) {a b c9 r0 : Nat} {as : List eV} (hM : e_Met l G d a (.inr (.inr (r0 + 1)) :: as) h o) (hmh : mh a = []) (hw1 : Cond.methodLink (nm y).cls c9 (nm a) ∈ GW) (hw2 : Cond.instanceMethod (nm a) ∈ GW) (hw3 : Cond.selects (nm a).cls (nm a) (nm a) ∈ GW) (hw4 : Cond.initialized (nm a).cls ∈ GW) (hw5 : Cond.code (nm a) (cb a) (ml a) (rt a) ∈ GW) (hds : e_dsc a (b - 1)) (hm41 : ml a ≤ 41) (hcl : (nm a).cls = "java/lang/String") (hd : decode (cb y) pc = .ok (.invokevirtual c9, 3))
    (hlen : b ≤ st.length) (hcat : e_cat (st.drop b) ≤ 8) (hrev : (st.take b).reverse = .inr (.inr (r0 + 1)) :: as) (hr0 : 4097 ≤ r0) (hr1 : r0 ≤ 4132) (hcn : e_cn h ≤ e_cn o.2.2) (hsl : e_sl h ≤ e_sl o.2.2) : e_Rn G (p, l, e, R, s, m, args, below, meth, c, Q, c0, s0) y pc lo st (st.drop b) h o := by
  have N0 := N
  obtain ⟨hx, hb, hml, hown, hts, hX, hG, hlk, hin, hsh, hroom, hfr, htr, htab, hscr⟩ := N
  intro H ls locs cells slots hH hl hc hs hbc hbs hz
  obtain ⟨hstk, hal⟩ := e_stk (G := G) hlen hrev
  obtain ⟨we, wg⟩ := e_wsG hmh hw5
  have hc2 : cells + c0 = e_cn h := hc
  have hs2 : slots + s0 = e_sl h := hs
  have hal2 : as.length = b - 1 := by rw [List.length_cons] at hal; omega
  have hkZ : ∀ q : Nat, q < (gH G).size → ¬ gF G q → s.heap[q]? = (gH G)[q]? := fun q hq _ => hsh.2.2 q (by rw [← hG.2.2.2.1]; exact hq)
  have hrv : ∃ cell : Cell, H[gad G r0]? = some cell ∧ cell.vm.isStatics = false ∧ s.vm.findClass (nm a).cls = some cell.cls := by
    rw [hcl]
    have h9 := vk_recv (hX.2.2.2.2.2.2.2.2.2.2.kept hkZ) (i := r0 - 4097) (by omega) hH.2.2
    rw [show 4097 + (r0 - 4097) = r0 by omega] at h9
    exact h9
  have hstk2 : st.map (cV G) = (as.map (cV G)).reverse ++ .ref (gad G r0) :: (st.drop b).map (cV G) := by
    rw [hstk, List.map_cons, List.reverse_cons, List.append_assoc]
    rfl
  refine ⟨_, vx_runV (As := as.map (cV G)) (C := (nm a).cls) ⟨hx, hb, hml, hown, hts⟩ hM (cwV (b - 1) hts (e_good4 hw1 hw2 hw3 hw4 wg) we rfl rfl ⟨rfl, hds⟩ ⟨by show d + 10 + 1 ≤ R.frames; omega, by show 8 + (ml a + 11) + (60 * d + 200) ≤ R.locals; omega⟩) ⟨e_blind G h _, hrv, fun U hU hW => e_pre N0 (as := .inr (.inr (r0 + 1)) :: as) hH hz hU hW⟩ rfl (by rw [List.length_map]; exact hal2) hl.1 hstk2 (e_lvroom hcat) hd ⟨?_, ?_⟩⟩
  · show cells + (e_cn o.2.2 - e_cn h) ≤ R.cells; omega
  · show slots + (e_sl o.2.2 - e_sl h) ≤ R.slots; omega
theorem e_toMet {y9 : MethodName} {ws : List Cond} {rm : Room} {Pc : Array Value → State → Prop} {Qc : Array Value → State → Outcome → State → Prop} {XC : String → State → State → Prop} {mc ms : Nat} {free : Addr → Prop} (hM : vx_Met l y9 ws rm Pc Qc XC mc ms free) (hx : ∀ E st t, ¬ XC E st t) : Met l y9 ws rm Pc Qc mc ms free := by
  intro p9 e9 h1 h2 h3 s9 m9 a9 b9 h4 h5 h6 h7
  obtain ⟨n, o9, k1, k2, k3, k4⟩ := hM p9 e9 h1 h2 h3 s9 m9 a9 b9 h4 h5 h6 h7
  rcases k4 with k4 | ⟨q, -, E, ce, L, k5, -⟩
  · exact ⟨n, o9, k1, k2, k3, k4⟩
  · exact absurd k5 (hx _ _ _)
/-- a constructor -/
theorem e_RnI (N : e_N G B (p, l, e, R, s, m, args, below, meth, c, Q, c0, s0) y d out) {a b c9 r0 : Nat} {as : List eV} (hM : e_Met l G d a (.inr (.inr (r0 + 1)) :: as) h o) (ho : o.1 = 0) (hmh : mh a = []) (hnm : (nm a).name = "<init>") (hw1 : Cond.methodLink (nm y).cls c9 (nm a) ∈ GW ∨ (∃ host, Cond.methodLinkNest (nm y).cls c9 (nm a) host ∈ e_nw)) (hw2 : Cond.instanceMethod (nm a) ∈ GW) (hw4 : Cond.initialized (nm a).cls ∈ GW) (hw5 : Cond.code (nm a) (cb a) (ml a) none ∈ GW) (hrt : rt a = none) (hds : e_dsc a (b - 1)) (hm41 : ml a ≤ 41) (hd : decode (cb y) pc = .ok (.invokespecial c9, 3))
    (hlen : b ≤ st.length) (hcat : e_cat (st.drop b) ≤ 8) (hrev : (st.take b).reverse = .inr (.inr (r0 + 1)) :: as) (hcn : e_cn h ≤ e_cn o.2.2) (hsl : e_sl h ≤ e_sl o.2.2) : e_Rn G (p, l, e, R, s, m, args, below, meth, c, Q, c0, s0) y pc lo st (st.drop b) h o := by
  have N0 := N
  obtain ⟨hx, hb, hml, hown, hts, hX, hG, hlk, hin, hsh, hroom, hfr, htr, htab, hscr⟩ := N
  intro H ls locs cells slots hH hl hc hs hbc hbs hz
  obtain ⟨hstk, hal⟩ := e_stk (G := G) hlen hrev
  obtain ⟨we, wg⟩ := e_wsG hmh (by rw [hrt]; exact hw5)
  rw [hrt] at we
  have hc2 : cells + c0 = e_cn h := hc
  have hs2 : slots + s0 = e_sl h := hs
  have hal2 : as.length = b - 1 := by rw [List.length_cons] at hal; omega
  have hstk2 : st.map (cV G) = (as.map (cV G)).reverse ++ .ref (gad G r0) :: (st.drop b).map (cV G) := by
    rw [hstk, List.map_cons, List.reverse_cons, List.append_assoc]
    rfl
  have hMet := e_toMet hM (fun E st t q => by obtain ⟨⟨k9, hk9, -⟩, -⟩ := q; omega)
  have f1 : cells + (e_cn o.2.2 - e_cn h) ≤ R.cells := by omega
  have f2 : slots + (e_sl o.2.2 - e_sl h) ≤ R.slots := by omega
  have hrun : va_Run p l e R s m args below meth c H locs cells slots (e_cn o.2.2 - e_cn h) (e_sl o.2.2 - e_sl h) (F0 m pc ls (st.map (cV G))) ((st.drop b).map (cV G)) (e_Qc G o (Value.ref (gad G r0) :: as.map (cV G)).toArray) (gF G) := by
    rcases hw1 with hw1 | ⟨host, hw1⟩
    · exact va_runI (As := as.map (cV G)) ⟨hx, hb, hml, hown, hts⟩ hMet (cwI (b - 1) hts wg we rfl rfl (hts _ hw4) (hts _ hw1) (hts _ hw2) hnm hds ⟨by show d + 10 + 1 ≤ R.frames; omega, by show 8 + (ml a + 11) + (60 * d + 200) ≤ R.locals; omega⟩) ⟨e_blind G h _, fun U hU hW => e_pre N0 (as := .inr (.inr (r0 + 1)) :: as) hH hz hU hW⟩ rfl (by rw [List.length_map]; exact hal2) hl.1 hstk2 (e_lvroom hcat) hd ⟨f1, f2⟩
    · exact va_runIN (As := as.map (cV G)) (host := host) ⟨hx, hb, hml, hown, hts⟩ hMet ⟨va_cnB (b - 1) hts wg we rfl rfl (hX.2.2.2.2.2.2.1 _ hw1) (hts _ hw4) hds ⟨by show d + 10 + 1 ≤ R.frames; omega, by show 8 + (ml a + 11) + (60 * d + 200) ≤ R.locals; omega⟩, hnm, hts _ hw2⟩ ⟨e_blind G h _, fun U hU hW => e_pre N0 (as := .inr (.inr (r0 + 1)) :: as) hH hz hU hW⟩ rfl (by rw [List.length_map]; exact hal2) hl.1 hstk2 (e_lvroom hcat) hd ⟨f1, f2⟩
  exact ⟨_, fun T hT X => Or.inl (hrun T hT X)⟩
end CallS
