/-! ===== written by program (wip/engine2/gen7.py): copies, Object(), Arrays.fill ===== -/
theorem i_oinit {a b c9 : Nat} {E : eE} {B : eB} {pc : Nat} {lo : List (Nat × eV)} {st : List eV} {h : eH} {r : eG ⊕ eO} (hf : f_oinit a b c9 E B (pc, lo, st, h) = some r) : ∃ q st2, st = .inr (.inr (q + 1)) :: st2 ∧ e_cat st2 ≤ 8 ∧ r = .inl (pc + 3, lo, st2, h) := by
  unfold f_oinit at hf
  split at hf
  · rename_i p9 l9 q st2 h9 heq
    cases heq
    cases hg : Nat.ble (e_cat st2) 8 with
    | false => rw [hg] at hf; cases hf
    | true =>
      rw [hg] at hf
      cases hf
      exact ⟨q, st2, rfl, Nat.le_of_ble_eq_true hg, rfl⟩
  · cases hf
theorem s_oinit {y pc a b c9 : Nat} (hw1 : Cond.methodLink (nm y).cls c9 objectInit ∈ GW) (hw2 : Cond.instanceMethod objectInit ∈ GW) (hw3 : Cond.code objectInit ⟨#[0xb1]⟩ 1 none ∈ GW) (hd : decode (cb y) pc = .ok (.invokespecial c9, 3)) : e_P y pc (f_oinit a b c9) := by
  intro G B M d out E g r N hpc hf
  obtain ⟨p, l, e, R, s, m, args, below, meth, c, Q, c0, s0⟩ := M
  obtain ⟨hx, hb, hml, hown, hts, hX, hG, hlk, hin, hsh, hroom, hfr, htr, htab, hscr⟩ := N
  obtain ⟨pc', lo, st, h⟩ := g
  obtain rfl : pc' = pc := hpc
  obtain ⟨q, st2, rfl, hcat, rfl⟩ := i_oinit hf
  refine ⟨_, rfl, fun hcF hsF k => ?_⟩
  intro H ls locs cells slots hH hl hc hs
  have hml2 : ls.size = c.maxLocals := by rw [hml]; exact hl.1
  refine W.objInit hx hb hown (hts _ hw1) (hts _ hw2) (hts _ hw3) rfl hml2 (a := gad G q) (rest := st2.map (cV G)) rfl hd (by omega) ?_ ?_
  · have h9 := lv_room (m := m) (pc := pc') (ls := ls) (rest := List.map (cV G) (.inr (.inr (q + 1)) :: st2)) (st := st2.map (cV G)) (by rw [e_cat_eq]; exact hcat)
    have h8 : 2 * (F0 m pc' ls (List.map (cV G) (.inr (.inr (q + 1)) :: st2))).monitorRoom + ((st2.map (cV G)).map fun v => v.category).sum ≤ 8 := h9
    show 2 * (F0 m pc' ls (List.map (cV G) (.inr (.inr (q + 1)) :: st2))).monitorRoom + ((st2.map (cV G)).map fun v => v.category).sum + 12 ≤ R.locals
    omega
  · exact k H ls locs cells slots hH hl hc hs
theorem i_copy {t : Nat} {a b c9 : Nat} {E : eE} {B : eB} {pc : Nat} {lo : List (Nat × eV)} {st : List eV} {h : eH} {r : eG ⊕ eO} (hf : f_copy t a b c9 E B (pc, lo, st, h) = some r) : ∃ n dp q sp w st2 m f m2 f2, st = .inl n :: .inl dp :: .inr (.inr (q + 1)) :: .inl sp :: .inr (.inr (w + 1)) :: st2 ∧ e_get h w = (t, m, f) ∧ e_get h q = (t, m2, f2) ∧ w < e_sz h ∧ q < e_sz h ∧ sp + n ≤ m ∧ dp + n ≤ m2 ∧ m ≤ 1000000 ∧ m2 ≤ 1000000 ∧ e_cat st2 ≤ 8 ∧ r = .inl (pc + 3, lo, st2, e_set h q (t, m2, e_cpy f f2 sp dp n)) := by
  unfold f_copy at hf
  split at hf
  · rename_i p9 l9 n dp q sp w st2 h9 heq
    cases heq
    generalize hge : e_get h w = z at hf
    obtain ⟨k, m, f⟩ := z
    generalize hgv : e_get h q = z2 at hf
    obtain ⟨k2, m2, f2⟩ := z2
    dsimp only at hf
    cases hg : (Nat.ble (w + 1) (e_sz h) && Nat.ble w 1023 && Nat.ble (q + 1) (e_sz h) && Nat.ble q 1023 && Nat.beq k t && Nat.beq k2 t && Nat.ble (sp + n) m && Nat.ble (dp + n) m2 && Nat.ble m 1000000 && Nat.ble m2 1000000 && !(Nat.beq w q) && Nat.ble (e_cat st2) 8) with
    | false => rw [hg] at hf; cases hf
    | true =>
      rw [hg] at hf
      cases hf
      simp only [Bool.and_eq_true] at hg
      obtain ⟨⟨⟨⟨⟨⟨⟨⟨⟨⟨⟨h1, h2⟩, h3⟩, h4⟩, h5⟩, h6⟩, h7⟩, h8⟩, h9⟩, h10⟩, h11⟩, h12⟩ := hg
      have e : k = t := Nat.eq_of_beq_eq_true h5
      have e2 : k2 = t := Nat.eq_of_beq_eq_true h6
      subst e
      subst e2
      exact ⟨n, dp, q, sp, w, st2, m, f, m2, f2, rfl, hge, hgv, Nat.le_of_ble_eq_true h1, Nat.le_of_ble_eq_true h3, Nat.le_of_ble_eq_true h7, Nat.le_of_ble_eq_true h8, Nat.le_of_ble_eq_true h9, Nat.le_of_ble_eq_true h10, Nat.le_of_ble_eq_true h12, rfl⟩
  · cases hf
theorem e_cpy_if {α : Type} (u : eV → α) (f g : Nat → eV) (sp dp n : Nat) : (fun k => u (e_cpy f g sp dp n k)) = va_cpy (fun j => u (f j)) (fun j => u (g j)) sp dp n := by
  funext k
  unfold e_cpy va_cpy
  by_cases h : dp ≤ k ∧ k < dp + n
  · rw [if_pos h, Nat.ble_eq_true_of_le h.1, Nat.ble_eq_true_of_le (show k + 1 ≤ dp + n from h.2)]
    rfl
  · rw [if_neg h]
    have : (Nat.ble dp k && Nat.ble (k + 1) (dp + n)) = false := by
      cases hq : (Nat.ble dp k && Nat.ble (k + 1) (dp + n)) with
      | false => rfl
      | true =>
        simp only [Bool.and_eq_true] at hq
        exact absurd ⟨Nat.le_of_ble_eq_true hq.1, Nat.le_of_ble_eq_true hq.2⟩ h
    rw [this]
    rfl
theorem e_nfw : nativeFrameWords "java/lang/System" "arraycopy" 5 + 11 ≤ 50 := by decide
theorem s_copyI {y pc a b c9 : Nat} (hw1 : Cond.methodLink (nm y).cls c9 arraycopyName ∈ GW) (hw2 : Cond.native arraycopyName ∈ GW) (hw3 : Cond.static arraycopyName ∈ GW) (hw4 : Cond.initialized "java/lang/System" ∈ GW) (hd : decode (cb y) pc = .ok (.invokestatic c9, 3)) : e_P y pc (f_copy 100 a b c9) := by
  intro G B M d out E g r N hpc hf
  obtain ⟨p, l, e, R, s, m, args, below, meth, c, Q, c0, s0⟩ := M
  obtain ⟨hx, hb, hml, hown, hts, hX, hG, hlk, hin, hsh, hroom, hfr, htr, htab, hscr⟩ := N
  obtain ⟨pc', lo, st, h⟩ := g
  obtain rfl : pc' = pc := hpc
  obtain ⟨n, dp, q, sp, w, st2, m1, f, m2, f2, rfl, hge, hgv, hw, hq, b1, b2, b3, b4, hcat, rfl⟩ := i_copy hf
  refine ⟨_, rfl, fun hcF hsF k => ?_⟩
  intro H ls locs cells slots hH hl hc hs
  have hz : e_sz h ≤ 1024 := hH.2.1
  have g1 : giv G n = nI n := hG.2.1 n (by omega)
  have g2 : giv G dp = nI dp := hG.2.1 dp (by omega)
  have g3 : giv G sp = nI sp := hG.2.1 sp (by omega)
  have k1 : (nI n).toNatClampNeg = n := nI_clamp (by omega)
  have k2 : (nI dp).toNatClampNeg = dp := nI_clamp (by omega)
  have k3 : (nI sp).toNatClampNeg = sp := nI_clamp (by omega)
  have h9 := e_nfw
  have hcs := e_cat_eq G st2
  show W p l e R s m args below meth c H locs cells slots Q (F0 m pc' ls (.int (giv G n) :: .int (giv G dp) :: .ref (gad G q) :: .int (giv G sp) :: .ref (gad G w) :: st2.map (cV G)))
  rw [g1, g2, g3]
  refine va_copyi (D := gD G) hx hb (by rw [hml]; exact hl.1.symm) hown (hts _ hw1) (hts _ hw2) (hts _ hw3) (hts _ hw4) hX.1 hH.1 (e_D hG hz) hH.2.2 w q 0 0 (by rw [cW_at hw, hge, cE_int]) (by rw [cW_at hq, hgv, cE_int]) rfl rfl rfl (nI_pos (by omega)) (nI_pos (by omega)) (nI_pos (by omega)) (by rw [k1, k3]; exact b1) (by rw [k1, k2]; exact b2) (fun _ _ => rfl) (by omega) (by rw [hcs]; omega) hd (fun H1 locs1 hP1 hD1 hS1 => ?_)
  refine k H1 ls locs1 cells slots ⟨?_, hz, hS1⟩ hl hc hs
  show va_P (gD G) vwCl (cW G (e_set h q (100, m2, e_cpy f f2 sp dp n))) H1
  rw [cW_set hq hz, cE_int, e_cpy_if (cI G)]
  rw [k1, k2, k3] at hP1
  exact hP1
theorem s_copyL {y pc a b c9 : Nat} (hw1 : Cond.methodLink (nm y).cls c9 arraycopyName ∈ GW) (hw2 : Cond.native arraycopyName ∈ GW) (hw3 : Cond.static arraycopyName ∈ GW) (hw4 : Cond.initialized "java/lang/System" ∈ GW) (hd : decode (cb y) pc = .ok (.invokestatic c9, 3)) : e_P y pc (f_copy 102 a b c9) := by
  intro G B M d out E g r N hpc hf
  obtain ⟨p, l, e, R, s, m, args, below, meth, c, Q, c0, s0⟩ := M
  obtain ⟨hx, hb, hml, hown, hts, hX, hG, hlk, hin, hsh, hroom, hfr, htr, htab, hscr⟩ := N
  obtain ⟨pc', lo, st, h⟩ := g
  obtain rfl : pc' = pc := hpc
  obtain ⟨n, dp, q, sp, w, st2, m1, f, m2, f2, rfl, hge, hgv, hw, hq, b1, b2, b3, b4, hcat, rfl⟩ := i_copy hf
  refine ⟨_, rfl, fun hcF hsF k => ?_⟩
  intro H ls locs cells slots hH hl hc hs
  have hz : e_sz h ≤ 1024 := hH.2.1
  have g1 : giv G n = nI n := hG.2.1 n (by omega)
  have g2 : giv G dp = nI dp := hG.2.1 dp (by omega)
  have g3 : giv G sp = nI sp := hG.2.1 sp (by omega)
  have k1 : (nI n).toNatClampNeg = n := nI_clamp (by omega)
  have k2 : (nI dp).toNatClampNeg = dp := nI_clamp (by omega)
  have k3 : (nI sp).toNatClampNeg = sp := nI_clamp (by omega)
  have h9 := e_nfw
  have hcs := e_cat_eq G st2
  show W p l e R s m args below meth c H locs cells slots Q (F0 m pc' ls (.int (giv G n) :: .int (giv G dp) :: .ref (gad G q) :: .int (giv G sp) :: .ref (gad G w) :: st2.map (cV G)))
  rw [g1, g2, g3]
  refine va_copyl (D := gD G) hx hb (by rw [hml]; exact hl.1.symm) hown (hts _ hw1) (hts _ hw2) (hts _ hw3) (hts _ hw4) hX.1 hH.1 (e_D hG hz) hH.2.2 w q 2 2 (by rw [cW_at hw, hge, cE_long]) (by rw [cW_at hq, hgv, cE_long]) rfl rfl rfl (nI_pos (by omega)) (nI_pos (by omega)) (nI_pos (by omega)) (by rw [k1, k3]; exact b1) (by rw [k1, k2]; exact b2) (fun _ _ => rfl) (by omega) (by rw [hcs]; omega) hd (fun H1 locs1 hP1 hD1 hS1 => ?_)
  refine k H1 ls locs1 cells slots ⟨?_, hz, hS1⟩ hl hc hs
  show va_P (gD G) vwCl (cW G (e_set h q (102, m2, e_cpy f f2 sp dp n))) H1
  rw [cW_set hq hz, cE_long, e_cpy_if (cL)]
  rw [k1, k2, k3] at hP1
  exact hP1
/-! contracts -/
def e_Pc (G : GT) (h : eH) (as : List eV) : Array Value → State → Prop := fun v U => v = (as.map (cV G)).toArray ∧ e_BW G h U.heap ∧ e_X G U ∧ gb G ≤ U.heap.size ∧ U.heap.size ≤ gb G + e_cn h
def e_Qc (G : GT) (o : eO) : Array Value → State → Outcome → State → Prop := fun _ st oc t => ((o.1 = 0 ∧ oc = .returned none) ∨ (o.1 = 1 ∧ oc = .returned (some (cV G o.2.1)))) ∧ e_BW G o.2.2 t.heap ∧ st.heap.size ≤ t.heap.size
def e_Xc (G : GT) (o : eO) : String → State → State → Prop := fun E st t => (∃ k, o.1 = k + 2 ∧ E = e_exn k) ∧ e_BW G o.2.2 t.heap ∧ st.heap.size ≤ t.heap.size
def e_rm (d c s : Nat) : Room := { frames := d + 10, cells := c, slots := s, locals := 60 * d + 200 }
noncomputable def e_ws (y : Nat) : List Cond := (if mh y = [] then Cond.code (nm y) (cb y) (ml y) (rt y) else Cond.codeWith (nm y) (cb y) (ml y) (rt y) (mh y)) :: GW
def e_Met (l : Launch) (G : GT) (d y : Nat) (as : List eV) (h : eH) (o : eO) : Prop := vx_Met l (nm y) (e_ws y) (e_rm d (e_cn o.2.2 - e_cn h) (e_sl o.2.2 - e_sl h)) (e_Pc G h as) (e_Qc G o) (e_Xc G o) (e_cn o.2.2 - e_cn h) (e_sl o.2.2 - e_sl h) (gF G)
theorem e_below {G : GT} {s : State} {H : Heap} {locs : List Loc} (hS : va_S (gF G) s.heap H locs) (h1 : gb G ≤ s.heap.size) (h2 : ∀ q, q < gb G → s.heap[q]? = (gH G)[q]?) : ∀ q, q < gb G → H[q]? = (gH G)[q]? := fun q hq => (hS.2.1 q (Nat.lt_of_lt_of_le hq h1) (Nat.not_le.mpr hq)).trans (h2 q hq)
theorem List.set_eq_self {α : Type} {l : List α} {i : Nat} {x : α} (h : l[i]? = some x) : l.set i x = l := by
  apply List.ext_getElem?
  intro j
  by_cases e : i = j
  · subst e
    rw [List.getElem?_set_self (List.getElem?_eq_some_iff.mp h).1, h]
  · rw [List.getElem?_set_ne e]
set_option maxHeartbeats 4000000 in
set_option maxRecDepth 100000 in
theorem c_fillI {l : Launch} {G : GT} {B : eB} (hG : e_GOK G B) {d y q n x : Nat} {f : Nat → eV} {h : eH} (hy1 : nm y = yJ7_fill_53178) (hy2 : e_ws y = Cond.code yJ7_fill_53178 cJ7_fill_53178 4 none :: GW) (hge : e_get h q = (100, n, f)) (hq : q < e_sz h) (hn : n ≤ 1000000) : vx_Met l (nm y) (e_ws y) (e_rm d 0 0) (e_Pc G h [.inr (.inr (q + 1)), .inl x]) (e_Qc G (0, .inl 0, e_set h q (100, n, fun _ => .inl x))) (e_Xc G (0, .inl 0, e_set h q (100, n, fun _ => .inl x))) 0 0 (gF G) := by
  rw [hy1]
  refine vx_ofW (cc := cJ7_fill_53178) (maxL := 4) (ret := none) (by decide) hy2 ?_
  intro p e s m args below meth c s₁ Bd hml htab hv
  obtain ⟨rfl, hBW, hX, hsz1, hsz2⟩ := hv
  have hx := Bd.exec
  have hb := Bd.bytes
  have hr := Bd.returns
  have hlocks := Bd.notSynchronized
  have hz : e_sz h ≤ 1024 := hBW.2.1
  have hl := lv_entry ([.ref (gad G q), .int (giv G x)]) (n := 4) (Nat.le_of_ble_eq_true rfl)
  show W _ _ _ _ _ _ _ _ _ _ _ _ _ _ _ (entryFrame m ([.ref (gad G q), .int (giv G x)] : List Value).toArray 4)
  rw [lg_entry_eq]
  generalize (lg_sl ([.ref (gad G q), .int (giv G x)]) ++ List.replicate (4 - (lg_sl ([.ref (gad G q), .int (giv G x)])).length) Slot.unset).toArray = ls at hl ⊢
  have hl : lv_has ls 4 [(0, .ref (gad G q)), (1, .int (giv G x))] := hl
  have hS : va_S (gF G) s.heap s.heap [] := va_S.rf
  have hgn : giv G n = nI n := hG.2.1 n (by omega)
  have hw0 : (cW G h)[q]? = some (gad G q, .inl (gA G 100, n, .inl (fun j => cI G (f j)))) := by rw [cW_at hq, hge, cE_int]
  refine lv_iconst (v := 0) hx hb (show decode cJ7_fill_53178 0 = .ok (.iconst 0, 1) by decide +kernel) (by decide) ?_
  refine lv_istore_n (lv' := [(2, .int 0), (0, .ref (gad G q)), (1, .int (giv G x))]) hx hb (show decode cJ7_fill_53178 1 = .ok (.istore_n 2, 1) by decide +kernel) rfl hl (by decide) rfl (fun ls hl => ?_)
  refine lv_aload_n hx hb (show decode cJ7_fill_53178 2 = .ok (.aload_n 0, 1) by decide +kernel) rfl (lv_at hl 1 rfl) ?_
  refine va_alen (D := gD G) hx hb hX.1 hBW.1 q 0 hw0 rfl (v := nI n) rfl (show decode cJ7_fill_53178 3 = .ok (.arraylength, 1) by decide +kernel) ?_
  refine lv_istore_n (lv' := [(3, .int (nI n)), (2, .int 0), (0, .ref (gad G q)), (1, .int (giv G x))]) hx hb (show decode cJ7_fill_53178 4 = .ok (.istore_n 3, 1) by decide +kernel) rfl hl (by decide) rfl (fun ls hl => ?_)
  have loop : ∀ (k i : Nat), i + k = n → ∀ (H : Heap) (locs : List Loc) (ls : Array Slot) (F : Nat → Int32), va_P (gD G) vwCl ((cW G h).set q (gad G q, .inl (gA G 100, n, .inl (F)))) H → va_S (gF G) s.heap H locs → (∀ j, j < i → F j = giv G x) → lv_has ls 4 [(3, .int (nI n)), (2, .int (nI i)), (0, .ref (gad G q)), (1, .int (giv G x))] →
      W p l e (e_rm d 0 0) s m (List.map (cV G) [.inr (.inr (q + 1)), .inl x]).toArray below meth c H locs 0 0 (vx_MQ below (e_Qc G (0, .inl 0, e_set h q (100, n, fun _ => .inl x))) (e_Xc G (0, .inl 0, e_set h q (100, n, fun _ => .inl x))) (List.map (cV G) [.inr (.inr (q + 1)), .inl x]).toArray s 0 0 (gF G)) (F0 m 5 ls []) := by
    intro k
    induction k with
    | zero =>
      intro i hi H locs ls F hP hS hF hl
      have e : i = n := by omega
      subst e
      refine lv_iload_n hx hb (show decode cJ7_fill_53178 5 = .ok (.iload_n 2, 1) by decide +kernel) rfl (lv_at hl 1 rfl) ?_
      refine lv_iload_n hx hb (show decode cJ7_fill_53178 6 = .ok (.iload_n 3, 1) by decide +kernel) rfl (lv_at hl 0 rfl) ?_
      refine lv_icmp_ge (tgt := 20) hx hb (show decode cJ7_fill_53178 7 = .ok (.if_icmp .ge 13, 3) by decide +kernel) (by decide) (fun _ => ?_) (fun h9 => absurd (nI_le (Nat.le_refl i) (by omega)) h9)
      refine vx_ret ?_
      refine W.vret hx hb hr (fun t ht hW => ⟨Or.inl ⟨rfl, rfl⟩, ⟨?_, hz, fun z hz9 => ?_⟩, by rw [ht]; exact hS.1⟩) (fun z hz9 => hS.2.2 z hz9) (show decode cJ7_fill_53178 20 = .ok (.return_, 1) by decide +kernel)
      · rw [ht]
        show va_P (gD G) vwCl (cW G (e_set h q (100, i, fun _ => .inl x))) H
        rw [cW_set hq hz, cE_int]
        intro k9 x9 hx9
        by_cases ek : k9 = q
        · subst ek
          rw [List.getElem?_set_self (by rw [cW_len]; exact hq)] at hx9
          cases hx9
          have h8 := hP k9 (gad G k9, .inl (gA G 100, i, .inl (F))) (by rw [List.getElem?_set_self (by rw [cW_len]; exact hq)])
          show H[gad G k9]? = some (vp_cell _ _)
          have h7 : H[gad G k9]? = some (vp_cell (gA G 100) (i, .inl (F))) := h8
          rw [h7]
          refine congrArg some ?_
          rw [vp_cell_i, vp_cell_i]
          apply arrV_congr
          intro j hj
          rw [hF j hj]
          rfl
        · rw [List.getElem?_set_ne (Ne.symm ek)] at hx9
          exact hP k9 x9 (by rw [List.getElem?_set_ne (Ne.symm ek)]; exact hx9)
      · rw [ht]
        exact (hS.2.1 z (Nat.lt_of_lt_of_le hz9 hsz1) (Nat.not_le.mpr hz9)).trans (hBW.2.2 z hz9)
    | succ k ih =>
      intro i hi H locs ls F hP hS hF hl
      have hsz : (cW G h).length = e_sz h := cW_len G h
      have hD : va_D (gF G) ((cW G h).set q (gad G q, .inl (gA G 100, n, .inl (F)))) := (e_D hG hz).set hw0
      have hwq : ((cW G h).set q (gad G q, .inl (gA G 100, n, .inl (F))))[q]? = some (gad G q, .inl (gA G 100, n, .inl (F))) := List.getElem?_set_self (by rw [hsz]; exact hq)
      refine lv_iload_n hx hb (show decode cJ7_fill_53178 5 = .ok (.iload_n 2, 1) by decide +kernel) rfl (lv_at hl 1 rfl) ?_
      refine lv_iload_n hx hb (show decode cJ7_fill_53178 6 = .ok (.iload_n 3, 1) by decide +kernel) rfl (lv_at hl 0 rfl) ?_
      refine lv_icmp_ge (tgt := 20) hx hb (show decode cJ7_fill_53178 7 = .ok (.if_icmp .ge 13, 3) by decide +kernel) (by decide) (fun h9 => absurd h9 (nI_ge (by omega) (by omega))) (fun _ => ?_)
      refine lv_aload_n hx hb (show decode cJ7_fill_53178 10 = .ok (.aload_n 0, 1) by decide +kernel) rfl (lv_at hl 2 rfl) ?_
      refine lv_iload_n hx hb (show decode cJ7_fill_53178 11 = .ok (.iload_n 2, 1) by decide +kernel) rfl (lv_at hl 1 rfl) ?_
      refine lv_iload_n hx hb (show decode cJ7_fill_53178 12 = .ok (.iload_n 1, 1) by decide +kernel) rfl (lv_at hl 3 rfl) ?_
      refine va_iast (D := gD G) hx hb hX.1 hP hD hS q 0 hwq rfl (vp_in_nI (by omega) (by omega)) (show decode cJ7_fill_53178 13 = .ok (.iastore, 1) by decide +kernel) (fun H1 locs1 hP1 hD1 hS1 => ?_)
      rw [nI_clamp (show i < 2 ^ 31 by omega), List.set_set] at hP1
      refine lv_iinc (lv' := [(2, .int (nI (i + 1))), (3, .int (nI n)), (0, .ref (gad G q)), (1, .int (giv G x))]) (k := 1) hx hb (show decode cJ7_fill_53178 14 = .ok (.iinc 2 1, 3) by decide +kernel) hl rfl (v := nI (i + 1)) (by rw [nI_succ]; rfl) (by decide) rfl (fun ls2 hl2 => ?_)
      refine lv_goto (tgt := 5) hx hb (show decode cJ7_fill_53178 17 = .ok (.goto (-12), 3) by decide +kernel) (by decide) ?_
      refine ih (i + 1) (by omega) H1 locs1 ls2 (upd F i (giv G x)) hP1 hS1 (fun j hj => ?_) (lv_sub hl2 [1, 0, 2, 3] rfl)
      unfold upd
      by_cases ej : j = i
      · rw [if_pos ej]
      · rw [if_neg ej]
        exact hF j (by omega)
  refine loop n 0 (by omega) s.heap [] ls (fun j => cI G (f j)) (by rw [List.set_eq_self hw0]; exact hBW.1) hS (fun j hj => absurd hj (Nat.not_lt_zero j)) hl
set_option maxHeartbeats 4000000 in
set_option maxRecDepth 100000 in
theorem c_fillL {l : Launch} {G : GT} {B : eB} (hG : e_GOK G B) {d y q n x : Nat} {f : Nat → eV} {h : eH} (hy1 : nm y = yJ7_fill_d0a16) (hy2 : e_ws y = Cond.code yJ7_fill_d0a16 cJ7_fill_d0a16 5 none :: GW) (hge : e_get h q = (102, n, f)) (hq : q < e_sz h) (hn : n ≤ 1000000) : vx_Met l (nm y) (e_ws y) (e_rm d 0 0) (e_Pc G h [.inr (.inr (q + 1)), .inr (.inl x)]) (e_Qc G (0, .inl 0, e_set h q (102, n, fun _ => .inr (.inl x)))) (e_Xc G (0, .inl 0, e_set h q (102, n, fun _ => .inr (.inl x)))) 0 0 (gF G) := by
  rw [hy1]
  refine vx_ofW (cc := cJ7_fill_d0a16) (maxL := 5) (ret := none) (by decide) hy2 ?_
  intro p e s m args below meth c s₁ Bd hml htab hv
  obtain ⟨rfl, hBW, hX, hsz1, hsz2⟩ := hv
  have hx := Bd.exec
  have hb := Bd.bytes
  have hr := Bd.returns
  have hlocks := Bd.notSynchronized
  have hz : e_sz h ≤ 1024 := hBW.2.1
  have hl := lv_entry ([.ref (gad G q), .long (lN x)]) (n := 5) (Nat.le_of_ble_eq_true rfl)
  show W _ _ _ _ _ _ _ _ _ _ _ _ _ _ _ (entryFrame m ([.ref (gad G q), .long (lN x)] : List Value).toArray 5)
  rw [lg_entry_eq]
  generalize (lg_sl ([.ref (gad G q), .long (lN x)]) ++ List.replicate (5 - (lg_sl ([.ref (gad G q), .long (lN x)])).length) Slot.unset).toArray = ls at hl ⊢
  have hl : lv_has ls 5 [(0, .ref (gad G q)), (1, .long (lN x))] := hl
  have hS : va_S (gF G) s.heap s.heap [] := va_S.rf
  have hgn : giv G n = nI n := hG.2.1 n (by omega)
  have hw0 : (cW G h)[q]? = some (gad G q, .inl (gA G 102, n, .inr (.inl (fun j => cL (f j))))) := by rw [cW_at hq, hge, cE_long]
  refine lv_iconst (v := 0) hx hb (show decode cJ7_fill_d0a16 0 = .ok (.iconst 0, 1) by decide +kernel) (by decide) ?_
  refine lv_istore_n (lv' := [(3, .int 0), (0, .ref (gad G q)), (1, .long (lN x))]) hx hb (show decode cJ7_fill_d0a16 1 = .ok (.istore_n 3, 1) by decide +kernel) rfl hl (by decide) rfl (fun ls hl => ?_)
  refine lv_aload_n hx hb (show decode cJ7_fill_d0a16 2 = .ok (.aload_n 0, 1) by decide +kernel) rfl (lv_at hl 1 rfl) ?_
  refine va_alen (D := gD G) hx hb hX.1 hBW.1 q 2 hw0 rfl (v := nI n) rfl (show decode cJ7_fill_d0a16 3 = .ok (.arraylength, 1) by decide +kernel) ?_
  refine lv_istore (lv' := [(4, .int (nI n)), (3, .int 0), (0, .ref (gad G q)), (1, .long (lN x))]) hx hb (show decode cJ7_fill_d0a16 4 = .ok (.istore 4, 2) by decide +kernel) hl (by decide) rfl (fun ls hl => ?_)
  have loop : ∀ (k i : Nat), i + k = n → ∀ (H : Heap) (locs : List Loc) (ls : Array Slot) (F : Nat → Int64), va_P (gD G) vwCl ((cW G h).set q (gad G q, .inl (gA G 102, n, .inr (.inl (F))))) H → va_S (gF G) s.heap H locs → (∀ j, j < i → F j = lN x) → lv_has ls 5 [(4, .int (nI n)), (3, .int (nI i)), (0, .ref (gad G q)), (1, .long (lN x))] →
      W p l e (e_rm d 0 0) s m (List.map (cV G) [.inr (.inr (q + 1)), .inr (.inl x)]).toArray below meth c H locs 0 0 (vx_MQ below (e_Qc G (0, .inl 0, e_set h q (102, n, fun _ => .inr (.inl x)))) (e_Xc G (0, .inl 0, e_set h q (102, n, fun _ => .inr (.inl x)))) (List.map (cV G) [.inr (.inr (q + 1)), .inr (.inl x)]).toArray s 0 0 (gF G)) (F0 m 6 ls []) := by
    intro k
    induction k with
    | zero =>
      intro i hi H locs ls F hP hS hF hl
      have e : i = n := by omega
      subst e
      refine lv_iload_n hx hb (show decode cJ7_fill_d0a16 6 = .ok (.iload_n 3, 1) by decide +kernel) rfl (lv_at hl 1 rfl) ?_
      refine lv_iload hx hb (show decode cJ7_fill_d0a16 7 = .ok (.iload 4, 2) by decide +kernel) (lv_at hl 0 rfl) ?_
      refine lv_icmp_ge (tgt := 22) hx hb (show decode cJ7_fill_d0a16 9 = .ok (.if_icmp .ge 13, 3) by decide +kernel) (by decide) (fun _ => ?_) (fun h9 => absurd (nI_le (Nat.le_refl i) (by omega)) h9)
      refine vx_ret ?_
      refine W.vret hx hb hr (fun t ht hW => ⟨Or.inl ⟨rfl, rfl⟩, ⟨?_, hz, fun z hz9 => ?_⟩, by rw [ht]; exact hS.1⟩) (fun z hz9 => hS.2.2 z hz9) (show decode cJ7_fill_d0a16 22 = .ok (.return_, 1) by decide +kernel)
      · rw [ht]
        show va_P (gD G) vwCl (cW G (e_set h q (102, i, fun _ => .inr (.inl x)))) H
        rw [cW_set hq hz, cE_long]
        intro k9 x9 hx9
        by_cases ek : k9 = q
        · subst ek
          rw [List.getElem?_set_self (by rw [cW_len]; exact hq)] at hx9
          cases hx9
          have h8 := hP k9 (gad G k9, .inl (gA G 102, i, .inr (.inl (F)))) (by rw [List.getElem?_set_self (by rw [cW_len]; exact hq)])
          show H[gad G k9]? = some (vp_cell _ _)
          have h7 : H[gad G k9]? = some (vp_cell (gA G 102) (i, .inr (.inl (F)))) := h8
          rw [h7]
          refine congrArg some ?_
          rw [vp_cell_l, vp_cell_l]
          apply arrV_congr
          intro j hj
          rw [hF j hj]
          rfl
        · rw [List.getElem?_set_ne (Ne.symm ek)] at hx9
          exact hP k9 x9 (by rw [List.getElem?_set_ne (Ne.symm ek)]; exact hx9)
      · rw [ht]
        exact (hS.2.1 z (Nat.lt_of_lt_of_le hz9 hsz1) (Nat.not_le.mpr hz9)).trans (hBW.2.2 z hz9)
    | succ k ih =>
      intro i hi H locs ls F hP hS hF hl
      have hsz : (cW G h).length = e_sz h := cW_len G h
      have hD : va_D (gF G) ((cW G h).set q (gad G q, .inl (gA G 102, n, .inr (.inl (F))))) := (e_D hG hz).set hw0
      have hwq : ((cW G h).set q (gad G q, .inl (gA G 102, n, .inr (.inl (F)))))[q]? = some (gad G q, .inl (gA G 102, n, .inr (.inl (F)))) := List.getElem?_set_self (by rw [hsz]; exact hq)
      refine lv_iload_n hx hb (show decode cJ7_fill_d0a16 6 = .ok (.iload_n 3, 1) by decide +kernel) rfl (lv_at hl 1 rfl) ?_
      refine lv_iload hx hb (show decode cJ7_fill_d0a16 7 = .ok (.iload 4, 2) by decide +kernel) (lv_at hl 0 rfl) ?_
      refine lv_icmp_ge (tgt := 22) hx hb (show decode cJ7_fill_d0a16 9 = .ok (.if_icmp .ge 13, 3) by decide +kernel) (by decide) (fun h9 => absurd h9 (nI_ge (by omega) (by omega))) (fun _ => ?_)
      refine lv_aload_n hx hb (show decode cJ7_fill_d0a16 12 = .ok (.aload_n 0, 1) by decide +kernel) rfl (lv_at hl 2 rfl) ?_
      refine lv_iload_n hx hb (show decode cJ7_fill_d0a16 13 = .ok (.iload_n 3, 1) by decide +kernel) rfl (lv_at hl 1 rfl) ?_
      refine lv_lload_n hx hb (show decode cJ7_fill_d0a16 14 = .ok (.lload_n 1, 1) by decide +kernel) rfl (lv_at hl 3 rfl) ?_
      refine va_last (D := gD G) hx hb hX.1 hP hD hS q 2 hwq rfl (vp_in_nI (by omega) (by omega)) (show decode cJ7_fill_d0a16 15 = .ok (.lastore, 1) by decide +kernel) (fun H1 locs1 hP1 hD1 hS1 => ?_)
      rw [nI_clamp (show i < 2 ^ 31 by omega), List.set_set] at hP1
      refine lv_iinc (lv' := [(3, .int (nI (i + 1))), (4, .int (nI n)), (0, .ref (gad G q)), (1, .long (lN x))]) (k := 1) hx hb (show decode cJ7_fill_d0a16 16 = .ok (.iinc 3 1, 3) by decide +kernel) hl rfl (v := nI (i + 1)) (by rw [nI_succ]; rfl) (by decide) rfl (fun ls2 hl2 => ?_)
      refine lv_goto (tgt := 6) hx hb (show decode cJ7_fill_d0a16 19 = .ok (.goto (-13), 3) by decide +kernel) (by decide) ?_
      refine ih (i + 1) (by omega) H1 locs1 ls2 (vp_updL F i (lN x)) hP1 hS1 (fun j hj => ?_) (lv_sub hl2 [1, 0, 2, 3] rfl)
      unfold vp_updL
      by_cases ej : j = i
      · rw [if_pos ej]
      · rw [if_neg ej]
        exact hF j (by omega)
  refine loop n 0 (by omega) s.heap [] ls (fun j => cL (f j)) (by rw [List.set_eq_self hw0]; exact hBW.1) hS (fun j hj => absurd hj (Nat.not_lt_zero j)) hl
set_option maxHeartbeats 4000000 in
set_option maxRecDepth 100000 in
theorem c_fillB {l : Launch} {G : GT} {B : eB} (hG : e_GOK G B) {d y q n x : Nat} {f : Nat → eV} {h : eH} (hy1 : nm y = yJ7_fill_031fb) (hy2 : e_ws y = Cond.code yJ7_fill_031fb cJ7_fill_031fb 4 none :: GW) (hge : e_get h q = (101, n, f)) (hq : q < e_sz h) (hn : n ≤ 1000000) (hby : e_typ 4 (.inl x) = true) : vx_Met l (nm y) (e_ws y) (e_rm d 0 0) (e_Pc G h [.inr (.inr (q + 1)), .inl x]) (e_Qc G (0, .inl 0, e_set h q (101, n, fun _ => .inl x))) (e_Xc G (0, .inl 0, e_set h q (101, n, fun _ => .inl x))) 0 0 (gF G) := by
  rw [hy1]
  refine vx_ofW (cc := cJ7_fill_031fb) (maxL := 4) (ret := none) (by decide) hy2 ?_
  intro p e s m args below meth c s₁ Bd hml htab hv
  obtain ⟨rfl, hBW, hX, hsz1, hsz2⟩ := hv
  have hx := Bd.exec
  have hb := Bd.bytes
  have hr := Bd.returns
  have hlocks := Bd.notSynchronized
  have hz : e_sz h ≤ 1024 := hBW.2.1
  have hl := lv_entry ([.ref (gad G q), .int (giv G x)]) (n := 4) (Nat.le_of_ble_eq_true rfl)
  show W _ _ _ _ _ _ _ _ _ _ _ _ _ _ _ (entryFrame m ([.ref (gad G q), .int (giv G x)] : List Value).toArray 4)
  rw [lg_entry_eq]
  generalize (lg_sl ([.ref (gad G q), .int (giv G x)]) ++ List.replicate (4 - (lg_sl ([.ref (gad G q), .int (giv G x)])).length) Slot.unset).toArray = ls at hl ⊢
  have hl : lv_has ls 4 [(0, .ref (gad G q)), (1, .int (giv G x))] := hl
  have hS : va_S (gF G) s.heap s.heap [] := va_S.rf
  have hgn : giv G n = nI n := hG.2.1 n (by omega)
  have hw0 : (cW G h)[q]? = some (gad G q, .inl (gA G 101, n, .inl (fun j => cI G (f j)))) := by rw [cW_at hq, hge, cE_byte]
  refine lv_iconst (v := 0) hx hb (show decode cJ7_fill_031fb 0 = .ok (.iconst 0, 1) by decide +kernel) (by decide) ?_
  refine lv_istore_n (lv' := [(2, .int 0), (0, .ref (gad G q)), (1, .int (giv G x))]) hx hb (show decode cJ7_fill_031fb 1 = .ok (.istore_n 2, 1) by decide +kernel) rfl hl (by decide) rfl (fun ls hl => ?_)
  refine lv_aload_n hx hb (show decode cJ7_fill_031fb 2 = .ok (.aload_n 0, 1) by decide +kernel) rfl (lv_at hl 1 rfl) ?_
  refine va_alen (D := gD G) hx hb hX.1 hBW.1 q 1 hw0 rfl (v := nI n) rfl (show decode cJ7_fill_031fb 3 = .ok (.arraylength, 1) by decide +kernel) ?_
  refine lv_istore_n (lv' := [(3, .int (nI n)), (2, .int 0), (0, .ref (gad G q)), (1, .int (giv G x))]) hx hb (show decode cJ7_fill_031fb 4 = .ok (.istore_n 3, 1) by decide +kernel) rfl hl (by decide) rfl (fun ls hl => ?_)
  have loop : ∀ (k i : Nat), i + k = n → ∀ (H : Heap) (locs : List Loc) (ls : Array Slot) (F : Nat → Int32), va_P (gD G) vwCl ((cW G h).set q (gad G q, .inl (gA G 101, n, .inl (F)))) H → va_S (gF G) s.heap H locs → (∀ j, j < i → F j = giv G x) → lv_has ls 4 [(3, .int (nI n)), (2, .int (nI i)), (0, .ref (gad G q)), (1, .int (giv G x))] →
      W p l e (e_rm d 0 0) s m (List.map (cV G) [.inr (.inr (q + 1)), .inl x]).toArray below meth c H locs 0 0 (vx_MQ below (e_Qc G (0, .inl 0, e_set h q (101, n, fun _ => .inl x))) (e_Xc G (0, .inl 0, e_set h q (101, n, fun _ => .inl x))) (List.map (cV G) [.inr (.inr (q + 1)), .inl x]).toArray s 0 0 (gF G)) (F0 m 5 ls []) := by
    intro k
    induction k with
    | zero =>
      intro i hi H locs ls F hP hS hF hl
      have e : i = n := by omega
      subst e
      refine lv_iload_n hx hb (show decode cJ7_fill_031fb 5 = .ok (.iload_n 2, 1) by decide +kernel) rfl (lv_at hl 1 rfl) ?_
      refine lv_iload_n hx hb (show decode cJ7_fill_031fb 6 = .ok (.iload_n 3, 1) by decide +kernel) rfl (lv_at hl 0 rfl) ?_
      refine lv_icmp_ge (tgt := 20) hx hb (show decode cJ7_fill_031fb 7 = .ok (.if_icmp .ge 13, 3) by decide +kernel) (by decide) (fun _ => ?_) (fun h9 => absurd (nI_le (Nat.le_refl i) (by omega)) h9)
      refine vx_ret ?_
      refine W.vret hx hb hr (fun t ht hW => ⟨Or.inl ⟨rfl, rfl⟩, ⟨?_, hz, fun z hz9 => ?_⟩, by rw [ht]; exact hS.1⟩) (fun z hz9 => hS.2.2 z hz9) (show decode cJ7_fill_031fb 20 = .ok (.return_, 1) by decide +kernel)
      · rw [ht]
        show va_P (gD G) vwCl (cW G (e_set h q (101, i, fun _ => .inl x))) H
        rw [cW_set hq hz, cE_byte]
        intro k9 x9 hx9
        by_cases ek : k9 = q
        · subst ek
          rw [List.getElem?_set_self (by rw [cW_len]; exact hq)] at hx9
          cases hx9
          have h8 := hP k9 (gad G k9, .inl (gA G 101, i, .inl (F))) (by rw [List.getElem?_set_self (by rw [cW_len]; exact hq)])
          show H[gad G k9]? = some (vp_cell _ _)
          have h7 : H[gad G k9]? = some (vp_cell (gA G 101) (i, .inl (F))) := h8
          rw [h7]
          refine congrArg some ?_
          rw [vp_cell_i, vp_cell_i]
          apply arrV_congr
          intro j hj
          rw [hF j hj]
          rfl
        · rw [List.getElem?_set_ne (Ne.symm ek)] at hx9
          exact hP k9 x9 (by rw [List.getElem?_set_ne (Ne.symm ek)]; exact hx9)
      · rw [ht]
        exact (hS.2.1 z (Nat.lt_of_lt_of_le hz9 hsz1) (Nat.not_le.mpr hz9)).trans (hBW.2.2 z hz9)
    | succ k ih =>
      intro i hi H locs ls F hP hS hF hl
      have hsz : (cW G h).length = e_sz h := cW_len G h
      have hD : va_D (gF G) ((cW G h).set q (gad G q, .inl (gA G 101, n, .inl (F)))) := (e_D hG hz).set hw0
      have hwq : ((cW G h).set q (gad G q, .inl (gA G 101, n, .inl (F))))[q]? = some (gad G q, .inl (gA G 101, n, .inl (F))) := List.getElem?_set_self (by rw [hsz]; exact hq)
      refine lv_iload_n hx hb (show decode cJ7_fill_031fb 5 = .ok (.iload_n 2, 1) by decide +kernel) rfl (lv_at hl 1 rfl) ?_
      refine lv_iload_n hx hb (show decode cJ7_fill_031fb 6 = .ok (.iload_n 3, 1) by decide +kernel) rfl (lv_at hl 0 rfl) ?_
      refine lv_icmp_ge (tgt := 20) hx hb (show decode cJ7_fill_031fb 7 = .ok (.if_icmp .ge 13, 3) by decide +kernel) (by decide) (fun h9 => absurd h9 (nI_ge (by omega) (by omega))) (fun _ => ?_)
      refine lv_aload_n hx hb (show decode cJ7_fill_031fb 10 = .ok (.aload_n 0, 1) by decide +kernel) rfl (lv_at hl 2 rfl) ?_
      refine lv_iload_n hx hb (show decode cJ7_fill_031fb 11 = .ok (.iload_n 2, 1) by decide +kernel) rfl (lv_at hl 1 rfl) ?_
      refine lv_iload_n hx hb (show decode cJ7_fill_031fb 12 = .ok (.iload_n 1, 1) by decide +kernel) rfl (lv_at hl 3 rfl) ?_
      refine va_bast (D := gD G) hx hb hX.1 hP hD hS q 1 hwq rfl (vp_in_nI (by omega) (by omega)) (show decode cJ7_fill_031fb 13 = .ok (.bastore, 1) by decide +kernel) (fun H1 locs1 hP1 hD1 hS1 => ?_)
      rw [nI_clamp (show i < 2 ^ 31 by omega), List.set_set, e_bnar hG hby] at hP1
      refine lv_iinc (lv' := [(2, .int (nI (i + 1))), (3, .int (nI n)), (0, .ref (gad G q)), (1, .int (giv G x))]) (k := 1) hx hb (show decode cJ7_fill_031fb 14 = .ok (.iinc 2 1, 3) by decide +kernel) hl rfl (v := nI (i + 1)) (by rw [nI_succ]; rfl) (by decide) rfl (fun ls2 hl2 => ?_)
      refine lv_goto (tgt := 5) hx hb (show decode cJ7_fill_031fb 17 = .ok (.goto (-12), 3) by decide +kernel) (by decide) ?_
      refine ih (i + 1) (by omega) H1 locs1 ls2 (upd F i (giv G x)) hP1 hS1 (fun j hj => ?_) (lv_sub hl2 [1, 0, 2, 3] rfl)
      unfold upd
      by_cases ej : j = i
      · rw [if_pos ej]
      · rw [if_neg ej]
        exact hF j (by omega)
  refine loop n 0 (by omega) s.heap [] ls (fun j => cI G (f j)) (by rw [List.set_eq_self hw0]; exact hBW.1) hS (fun j hj => absurd hj (Nat.not_lt_zero j)) hl
