/-! ===== calls as instructions; runs ===== -/
theorem i_call {a b c9 : Nat} {E : eE} {B : eB} {pc : Nat} {lo : List (Nat × eV)} {st : List eV} {h : eH} {r : eG ⊕ eO} (hf : f_call a b c9 E B (pc, lo, st, h) = some r) : b ≤ st.length ∧ e_cat (st.drop b) ≤ 8 ∧ ∃ o, E a (st.take b).reverse h = some o ∧ e_back pc lo (st.drop b) (some o) = some r := by
  unfold f_call at hf
  dsimp only at hf
  cases hg : (Nat.ble b st.length && Nat.ble (e_cat (st.drop b)) 8) with
  | false => rw [hg] at hf; cases hf
  | true =>
    rw [hg] at hf
    dsimp only [cond] at hf
    simp only [Bool.and_eq_true] at hg
    cases ho : E a (st.take b).reverse h with
    | none => rw [ho] at hf; cases hf
    | some o =>
      rw [ho] at hf
      exact ⟨Nat.le_of_ble_eq_true hg.1, Nat.le_of_ble_eq_true hg.2, o, rfl, hf⟩
theorem i_calli {a b c9 : Nat} {E : eE} {B : eB} {pc : Nat} {lo : List (Nat × eV)} {st : List eV} {h : eH} {r : eG ⊕ eO} (hf : f_calli a b c9 E B (pc, lo, st, h) = some r) : b ≤ st.length ∧ e_cat (st.drop b) ≤ 8 ∧ ∃ r0 as o, (st.take b).reverse = .inr (.inr (r0 + 1)) :: as ∧ E a (.inr (.inr (r0 + 1)) :: as) h = some o ∧ o.1 = 0 ∧ e_back pc lo (st.drop b) (some o) = some r := by
  unfold f_calli at hf
  dsimp only at hf
  cases hg : (Nat.ble b st.length && Nat.ble (e_cat (st.drop b)) 8) with
  | false => rw [hg] at hf; cases hf
  | true =>
    rw [hg] at hf
    dsimp only [cond] at hf
    simp only [Bool.and_eq_true] at hg
    split at hf
    · rename_i r0 as heq
      split at hf
      · rename_i v h2 heo
        exact ⟨Nat.le_of_ble_eq_true hg.1, Nat.le_of_ble_eq_true hg.2, r0, as, _, heq, heo, rfl, hf⟩
      · cases hf
    · cases hf
theorem i_callv {mc : Nat → Nat} {a b c9 : Nat} {E : eE} {B : eB} {pc : Nat} {lo : List (Nat × eV)} {st : List eV} {h : eH} {r : eG ⊕ eO} (hf : f_callv mc a b c9 E B (pc, lo, st, h) = some r) : b ≤ st.length ∧ e_cat (st.drop b) ≤ 8 ∧ ∃ r0 as o, (st.take b).reverse = .inr (.inr (r0 + 1)) :: as ∧ r0 < e_sz h ∧ (e_get h r0).1 = mc a ∧ E a (.inr (.inr (r0 + 1)) :: as) h = some o ∧ e_back pc lo (st.drop b) (some o) = some r := by
  unfold f_callv at hf
  dsimp only at hf
  cases hg : (Nat.ble b st.length && Nat.ble (e_cat (st.drop b)) 8) with
  | false => rw [hg] at hf; cases hf
  | true =>
    rw [hg] at hf
    dsimp only [cond] at hf
    simp only [Bool.and_eq_true] at hg
    split at hf
    · rename_i r0 as heq
      cases hg2 : (Nat.ble (r0 + 1) (e_sz h) && Nat.beq (e_get h r0).1 (mc a)) with
      | false => rw [hg2] at hf; cases hf
      | true =>
        rw [hg2] at hf
        dsimp only [cond] at hf
        simp only [Bool.and_eq_true] at hg2
        cases ho : E a (.inr (.inr (r0 + 1)) :: as) h with
        | none => rw [ho] at hf; cases hf
        | some o =>
          rw [ho] at hf
          exact ⟨Nat.le_of_ble_eq_true hg.1, Nat.le_of_ble_eq_true hg.2, r0, as, o, heq, Nat.le_of_ble_eq_true hg2.1, Nat.eq_of_beq_eq_true hg2.2, ho, hf⟩
    · cases hf
theorem i_calls {a b c9 : Nat} {E : eE} {B : eB} {pc : Nat} {lo : List (Nat × eV)} {st : List eV} {h : eH} {r : eG ⊕ eO} (hf : f_calls a b c9 E B (pc, lo, st, h) = some r) : b ≤ st.length ∧ e_cat (st.drop b) ≤ 8 ∧ ∃ r0 as o, (st.take b).reverse = .inr (.inr (r0 + 1)) :: as ∧ 4097 ≤ r0 ∧ r0 ≤ 4132 ∧ E a (.inr (.inr (r0 + 1)) :: as) h = some o ∧ e_back pc lo (st.drop b) (some o) = some r := by
  unfold f_calls at hf
  dsimp only at hf
  cases hg : (Nat.ble b st.length && Nat.ble (e_cat (st.drop b)) 8) with
  | false => rw [hg] at hf; cases hf
  | true =>
    rw [hg] at hf
    dsimp only [cond] at hf
    simp only [Bool.and_eq_true] at hg
    split at hf
    · rename_i r0 as heq
      cases hg2 : (Nat.ble 4097 r0 && Nat.ble r0 4132) with
      | false => rw [hg2] at hf; cases hf
      | true =>
        rw [hg2] at hf
        dsimp only [cond] at hf
        simp only [Bool.and_eq_true] at hg2
        cases ho : E a (.inr (.inr (r0 + 1)) :: as) h with
        | none => rw [ho] at hf; cases hf
        | some o =>
          rw [ho] at hf
          exact ⟨Nat.le_of_ble_eq_true hg.1, Nat.le_of_ble_eq_true hg.2, r0, as, o, heq, Nat.le_of_ble_eq_true hg2.1, Nat.le_of_ble_eq_true hg2.2, ho, hf⟩
    · cases hf
theorem s_call {y pc d a b c9 : Nat} (ha0 : a ≠ 0) (hmy : mh y = []) (hmh : mh a = []) (hw1 : Cond.methodLink (nm y).cls c9 (nm a) ∈ GW) (hw2 : Cond.static (nm a) ∈ GW) (hw4 : Cond.initialized (nm a).cls ∈ GW) (hw5 : Cond.code (nm a) (cb a) (ml a) (rt a) ∈ GW) (hds : e_dsc a b) (hm41 : ml a ≤ 41) (hd : decode (cb y) pc = .ok (.invokestatic c9, 3)) : e_S y pc d (f_call a b c9) := by
  intro G B M out E g r N hE hEnd hpc hf
  obtain ⟨p, l, e, R, s, m, args, below, meth, c, Q, c0, s0⟩ := M
  obtain ⟨pc', lo, st, h⟩ := g
  obtain rfl : pc' = pc := hpc
  obtain ⟨hlen, hcat, o, hEo, hbk⟩ := i_call hf
  obtain ⟨hcn, hsl, hM⟩ := hE a _ h o ha0 hEo
  exact e_fin N hEnd hcn hsl hmy (e_RnS N hM hmh hw1 hw2 hw4 hw5 hds hm41 hd hlen hcat rfl hcn hsl) hbk
theorem s_callx {y pc d a b c9 : Nat} (ha0 : a ≠ 0) (hmy : mh y = []) (hmh : ¬ mh a = []) (hw1 : Cond.methodLink (nm y).cls c9 (nm a) ∈ GW) (hw2 : Cond.static (nm a) ∈ GW) (hw4 : Cond.initialized (nm a).cls ∈ GW) (hw5 : Cond.codeWith (nm a) (cb a) (ml a) (rt a) (mh a) ∈ GW) (hds : e_dsc a b) (hm41 : ml a ≤ 41) (hd : decode (cb y) pc = .ok (.invokestatic c9, 3)) : e_S y pc d (f_call a b c9) := by
  intro G B M out E g r N hE hEnd hpc hf
  obtain ⟨p, l, e, R, s, m, args, below, meth, c, Q, c0, s0⟩ := M
  obtain ⟨pc', lo, st, h⟩ := g
  obtain rfl : pc' = pc := hpc
  obtain ⟨hlen, hcat, o, hEo, hbk⟩ := i_call hf
  obtain ⟨hcn, hsl, hM⟩ := hE a _ h o ha0 hEo
  exact e_fin N hEnd hcn hsl hmy (e_RnSX N hM hmh hw1 hw2 hw4 hw5 hds hm41 hd hlen hcat rfl hcn hsl) hbk
theorem s_callv {y pc d a b c9 : Nat} {T : u_T} {n : Nat} (ha0 : a ≠ 0) (hmy : mh y = []) (hmh : mh a = []) (hw1 : Cond.methodLink (nm y).cls c9 (nm a) ∈ GW) (hw2 : Cond.instanceMethod (nm a) ∈ GW) (hw3 : Cond.selects (nm a).cls (nm a) (nm a) ∈ GW) (hw4 : Cond.initialized (nm a).cls ∈ GW) (hw5 : Cond.code (nm a) (cb a) (ml a) (rt a) ∈ GW) (hds : e_dsc a (b - 1)) (hm41 : ml a ≤ 41) (hci : e_mc a < 100) (hcl : vwCl[e_mc a]? = some ((nm a).cls, T, n)) (hd : decode (cb y) pc = .ok (.invokevirtual c9, 3)) : e_S y pc d (f_callv e_mc a b c9) := by
  intro G B M out E g r N hE hEnd hpc hf
  obtain ⟨p, l, e, R, s, m, args, below, meth, c, Q, c0, s0⟩ := M
  obtain ⟨pc', lo, st, h⟩ := g
  obtain rfl : pc' = pc := hpc
  obtain ⟨hlen, hcat, r0, as, o, hrev, hr0, hk, hEo, hbk⟩ := i_callv hf
  obtain ⟨hcn, hsl, hM⟩ := hE a _ h o ha0 hEo
  exact e_fin N hEnd hcn hsl hmy (e_RnV N hM hmh hw1 hw2 hw3 hw4 hw5 hds hm41 hci hcl hd hlen hcat hrev hr0 hk hcn hsl) hbk
theorem s_calls {y pc d a b c9 : Nat} (ha0 : a ≠ 0) (hmy : mh y = []) (hmh : mh a = []) (hw1 : Cond.methodLink (nm y).cls c9 (nm a) ∈ GW) (hw2 : Cond.instanceMethod (nm a) ∈ GW) (hw3 : Cond.selects (nm a).cls (nm a) (nm a) ∈ GW) (hw4 : Cond.initialized (nm a).cls ∈ GW) (hw5 : Cond.code (nm a) (cb a) (ml a) (rt a) ∈ GW) (hds : e_dsc a (b - 1)) (hm41 : ml a ≤ 41) (hcl : (nm a).cls = "java/lang/String") (hd : decode (cb y) pc = .ok (.invokevirtual c9, 3)) : e_S y pc d (f_calls a b c9) := by
  intro G B M out E g r N hE hEnd hpc hf
  obtain ⟨p, l, e, R, s, m, args, below, meth, c, Q, c0, s0⟩ := M
  obtain ⟨pc', lo, st, h⟩ := g
  obtain rfl : pc' = pc := hpc
  obtain ⟨hlen, hcat, r0, as, o, hrev, hr0, hr1, hEo, hbk⟩ := i_calls hf
  obtain ⟨hcn, hsl, hM⟩ := hE a _ h o ha0 hEo
  exact e_fin N hEnd hcn hsl hmy (e_RnT N hM hmh hw1 hw2 hw3 hw4 hw5 hds hm41 hcl hd hlen hcat hrev hr0 hr1 hcn hsl) hbk
theorem s_calli {y pc d a b c9 : Nat} (ha0 : a ≠ 0) (hmy : mh y = []) (hmh : mh a = []) (hnm : (nm a).name = "<init>") (hw1 : Cond.methodLink (nm y).cls c9 (nm a) ∈ GW ∨ (∃ host, Cond.methodLinkNest (nm y).cls c9 (nm a) host ∈ e_nw)) (hw2 : Cond.instanceMethod (nm a) ∈ GW) (hw4 : Cond.initialized (nm a).cls ∈ GW) (hw5 : Cond.code (nm a) (cb a) (ml a) none ∈ GW) (hrt : rt a = none) (hds : e_dsc a (b - 1)) (hm41 : ml a ≤ 41) (hd : decode (cb y) pc = .ok (.invokespecial c9, 3)) : e_S y pc d (f_calli a b c9) := by
  intro G B M out E g r N hE hEnd hpc hf
  obtain ⟨p, l, e, R, s, m, args, below, meth, c, Q, c0, s0⟩ := M
  obtain ⟨pc', lo, st, h⟩ := g
  obtain rfl : pc' = pc := hpc
  obtain ⟨hlen, hcat, r0, as, o, hrev, hEo, ho, hbk⟩ := i_calli hf
  obtain ⟨hcn, hsl, hM⟩ := hE a _ h o ha0 hEo
  exact e_fin N hEnd hcn hsl hmy (e_RnI N hM ho hmh hnm hw1 hw2 hw4 hw5 hrt hds hm41 hd hlen hcat hrev hcn hsl) hbk
/-! a call in a method that catches what it throws -/
theorem i_callc {mc xk : Nat → Nat} {a b c9 : Nat} {E : eE} {B : eB} {pc : Nat} {lo : List (Nat × eV)} {st : List eV} {h : eH} {r : eG ⊕ eO} (hf : f_callc mc xk a b c9 E B (pc, lo, st, h) = some r) : b ≤ st.length ∧ e_cat (st.drop b) ≤ 8 ∧ ∃ r0 as o, (st.take b).reverse = .inr (.inr (r0 + 1)) :: as ∧ r0 < e_sz h ∧ (e_get h r0).1 = mc a ∧ E a (.inr (.inr (r0 + 1)) :: as) h = some o ∧ ((o.1 = xk a + 2 ∧ r = .inr (1, .inl 1, o.2.2)) ∨ (o.1 ≤ 1 ∧ e_back pc lo (st.drop b) (some o) = some r)) := by
  unfold f_callc at hf
  dsimp only at hf
  cases hg : (Nat.ble b st.length && Nat.ble (e_cat (st.drop b)) 8) with
  | false => rw [hg] at hf; cases hf
  | true =>
    rw [hg] at hf
    dsimp only [cond] at hf
    simp only [Bool.and_eq_true] at hg
    split at hf
    · rename_i r0 as heq
      cases hg2 : (Nat.ble (r0 + 1) (e_sz h) && Nat.beq (e_get h r0).1 (mc a)) with
      | false => rw [hg2] at hf; cases hf
      | true =>
        rw [hg2] at hf
        dsimp only [cond] at hf
        simp only [Bool.and_eq_true] at hg2
        refine ⟨Nat.le_of_ble_eq_true hg.1, Nat.le_of_ble_eq_true hg.2, r0, as, ?_⟩
        cases ho : E a (.inr (.inr (r0 + 1)) :: as) h with
        | none => rw [ho] at hf; cases hf
        | some o =>
          rw [ho] at hf
          refine ⟨o, heq, Nat.le_of_ble_eq_true hg2.1, Nat.eq_of_beq_eq_true hg2.2, rfl, ?_⟩
          obtain ⟨tag, v, h2⟩ := o
          match tag, hf with
          | 0, hf => exact Or.inr ⟨Nat.zero_le _, hf⟩
          | 1, hf => exact Or.inr ⟨Nat.le_refl _, hf⟩
          | k + 2, hf =>
            dsimp only at hf
            cases hk : Nat.beq k (xk a) with
            | false => rw [hk] at hf; cases hf
            | true =>
              rw [hk] at hf
              cases hf
              have := Nat.eq_of_beq_eq_true hk
              exact Or.inl ⟨by show k + 2 = xk a + 2; omega, rfl⟩
    · cases hf
theorem e_exn_cast (k : Nat) : Cond.castable (e_exn k) (e_exn k) ∈ e_nw := by
  unfold e_exn
  split <;> decide
theorem e_1 {G : GT} {B : eB} (hG : e_GOK G B) : giv G 1 = 1 := hG.2.1 1 (by decide)
theorem s_callc {y pc d a b c9 : Nat} {T : u_T} {n sp ep hp cx ln j : Nat} (ha0 : a ≠ 0) (hmy : mh y = [(sp, ep, hp, cx)]) (hcx : cx ≠ 0) (hcov : sp ≤ pc ∧ pc < ep) (hwx : Cond.classLink (nm y).cls cx (e_exn (e_xk a)) ∈ GW) (hrty : rt y = some .int) (hj : j < ml y) (dh0 : (ln = 1 ∧ ∃ q : Fin 4, (q : Nat) = j ∧ decode (cb y) hp = .ok (.astore_n q, 1)) ∨ (ln = 2 ∧ decode (cb y) hp = .ok (.astore j, 2))) (dh1 : decode (cb y) (hp + ln) = .ok (.iconst 1, 1)) (dh2 : decode (cb y) (hp + ln + 1) = .ok (.ireturn, 1))
    (hmh : mh a = []) (hw1 : Cond.methodLink (nm y).cls c9 (nm a) ∈ GW) (hw2 : Cond.instanceMethod (nm a) ∈ GW) (hw3 : Cond.selects (nm a).cls (nm a) (nm a) ∈ GW) (hw4 : Cond.initialized (nm a).cls ∈ GW) (hw5 : Cond.code (nm a) (cb a) (ml a) (rt a) ∈ GW) (hds : e_dsc a (b - 1)) (hm41 : ml a ≤ 41) (hci : e_mc a < 100) (hcl : vwCl[e_mc a]? = some ((nm a).cls, T, n)) (hd : decode (cb y) pc = .ok (.invokevirtual c9, 3)) : e_S y pc d (f_callc e_mc e_xk a b c9) := by
  intro G B M out E g r N hE hEnd hpc hf
  obtain ⟨p, l, e, R, s, m, args, below, meth, c, Q, c0, s0⟩ := M
  have N0 := N
  obtain ⟨hx, hb, hml, hown, hts, hX, hG, hlk, hin, hsh, hroom, hfr, htr, htab, hscr⟩ := N
  obtain ⟨pc', lo, st, h⟩ := g
  obtain rfl : pc' = pc := hpc
  obtain ⟨hlen, hcat, r0, as, o, hrev, hr0, hk, hEo, hcase⟩ := i_callc hf
  obtain ⟨hcn, hsl, hM⟩ := hE a _ h o ha0 hEo
  have hRn := e_RnV (lo := lo) (pc := pc') N0 hM hmh hw1 hw2 hw3 hw4 hw5 hds hm41 hci hcl hd hlen hcat hrev hr0 hk hcn hsl
  rcases hcase with ⟨ho, rfl⟩ | ⟨ho, hbk⟩
  · refine Or.inr ⟨_, rfl, fun hoo => ?_⟩
    subst hoo
    intro H ls locs cells slots hH hl hc hs
    refine e_sized fun hz => ?_
    have hc2 : cells + c0 = e_cn h := hc
    have hs2 : slots + s0 = e_sl h := hs
    obtain ⟨A, hr⟩ := hRn H ls locs cells slots hH hl hc hs hroom.1 hroom.2 (e_fits N0 hc2 hz)
    refine e_toss N0 hH ho hr (fun q ce H1 locs1 hH1 hce hcv hcl9 => ?_)
    have hsp : c.exceptionTable.toList = [] ++ (tableOf [(sp, ep, hp, cx)])[0]! :: [] := by rw [htab, hmy]; rfl
    refine vx_catch (own := (nm y).cls) (name := e_exn (e_xk a)) hown [] _ [] hsp (fun z hz9 => by cases hz9) ?_ hcx (hts _ hwx) (va_Nw.use rfl (hX.2.2.2.2.2.2.1 _ (e_exn_cast _))) hce hcv hcl9 ?_
    · show covers ⟨sp, ep, hp, cx⟩ pc' = true
      simp [covers, hcov.1, hcov.2]
    · have fin : ∀ ls2 : Array Slot, W p l e R s m args below meth c H1 locs1 (cells + (e_cn o.2.2 - e_cn h)) (slots + (e_sl o.2.2 - e_sl h)) Q (F0 m (hp + ln) ls2 []) := by
        intro ls2
        refine lv_iconst (v := 1) hx hb dh1 (by decide) ?_
        have := hEnd.1 (hp + ln + 1) 1 H1 ls2 locs1 (cells + (e_cn o.2.2 - e_cn h)) (slots + (e_sl o.2.2 - e_sl h)) rfl rfl (Or.inl hrty) dh2 hH1 (by show _ = e_cn o.2.2; omega) (by show _ = e_sl o.2.2; omega)
        rw [e_1 hG] at this
        exact this
      rcases dh0 with ⟨hln, qf, hqf, dh0⟩ | ⟨hln, dh0⟩
      · subst hln
        exact lv_astore_n hx hb dh0 hqf hl hj rfl (fun ls2 hl2 => fin ls2)
      · subst hln
        exact lv_astore hx hb dh0 hl hj rfl (fun ls2 hl2 => fin ls2)
  · obtain ⟨tag, v, h2⟩ := o
    have hcn2 : e_cn h ≤ e_cn h2 := hcn
    have hsl2 : e_sl h ≤ e_sl h2 := hsl
    match tag, ho, hRn, hbk with
    | 0, _, hRn, hbk =>
      cases hbk
      refine Or.inl ⟨_, rfl, fun hcF hsF k => ?_⟩
      intro H ls locs cells slots hH hl hc hs
      refine e_sized fun hz => ?_
      have hc2 : cells + c0 = e_cn h := hc
      have hs2 : slots + s0 = e_sl h := hs
      obtain ⟨A, hr⟩ := hRn H ls locs cells slots hH hl hc hs (Nat.le_trans hcF hroom.1) (Nat.le_trans hsF hroom.2) (e_fits N0 hc2 hz)
      refine e_cont N0 (o := (0, v, h2)) hH (Or.inl rfl) hr (fun H1 locs1 hH1 => ?_)
      exact k H1 ls locs1 _ _ hH1 hl (by show cells + (e_cn h2 - e_cn h) + c0 = e_cn h2; omega) (by show slots + (e_sl h2 - e_sl h) + s0 = e_sl h2; omega)
    | 1, _, hRn, hbk =>
      cases hbk
      refine Or.inl ⟨_, rfl, fun hcF hsF k => ?_⟩
      intro H ls locs cells slots hH hl hc hs
      refine e_sized fun hz => ?_
      have hc2 : cells + c0 = e_cn h := hc
      have hs2 : slots + s0 = e_sl h := hs
      obtain ⟨A, hr⟩ := hRn H ls locs cells slots hH hl hc hs (Nat.le_trans hcF hroom.1) (Nat.le_trans hsF hroom.2) (e_fits N0 hc2 hz)
      refine e_cont N0 (o := (1, v, h2)) hH (Or.inr rfl) hr (fun H1 locs1 hH1 => ?_)
      exact k H1 ls locs1 _ _ hH1 hl (by show cells + (e_cn h2 - e_cn h) + c0 = e_cn h2; omega) (by show slots + (e_sl h2 - e_sl h) + s0 = e_sl h2; omega)
/-! the row of kinds -/
theorem e_old {G : GT} {s : State} (h : ∀ q, q < gb G → s.heap[q]? = (gH G)[q]?) : ∀ a : Nat, a < (gH G).size → ¬ gF G a → s.heap[a]? = (gH G)[a]? := fun a _ hn => h a (Nat.lt_of_not_le hn)
theorem s_kget {y pc a b c9 : Nat} (hw : Cond.fieldLinkNest (nm y).cls c9 "IslandHall" "KIND_OF_CODE" "[I" "IslandHall" ∈ e_nw) (hd : decode (cb y) pc = .ok (.getstatic c9, 3)) : e_P y pc (f_kget a b c9) := by
  intro G B M d out E g r N hpc hf
  obtain ⟨p, l, e, R, s, m, args, below, meth, c, Q, c0, s0⟩ := M
  obtain ⟨hx, hb, hml, hown, hts, hX, hG, hlk, hin, hsh, hroom, hfr, htr, htab, hscr⟩ := N
  obtain ⟨pc', lo, st, h⟩ := g
  obtain rfl : pc' = pc := hpc
  cases hf
  refine ⟨_, rfl, fun hcF hsF k => ?_⟩
  intro H ls locs cells slots hH hl hc hs
  refine va_getsN (A := gF G) hx hb (hX.2.2.2.2.2.2.2.1.kept (e_old hsh.2.2)) hH.2.2 hown (va_Nw.use rfl (hX.2.2.2.2.2.2.1 _ hw)) (fun _ h9 => h9) hd ?_
  exact k H ls locs cells slots hH hl hc hs
theorem i_kald {a b c9 : Nat} {E : eE} {B : eB} {pc : Nat} {lo : List (Nat × eV)} {st : List eV} {h : eH} {r : eG ⊕ eO} (hf : f_kald a b c9 E B (pc, lo, st, h) = some r) : ∃ x st2, st = .inl x :: .inr (.inr (4095 + 1)) :: st2 ∧ x ≤ 5 ∧ r = .inl (pc + 1, lo, .inl (e_kind x) :: st2, h) := by
  unfold f_kald at hf
  split at hf
  · rename_i p9 l9 x q st2 h9 heq
    cases heq
    cases hg : (Nat.beq q 4095 && Nat.ble x 5) with
    | false => rw [hg] at hf; cases hf
    | true =>
      rw [hg] at hf
      cases hf
      simp only [Bool.and_eq_true] at hg
      have e : q = 4095 := Nat.eq_of_beq_eq_true hg.1
      subst e
      exact ⟨x, st2, rfl, Nat.le_of_ble_eq_true hg.2, rfl⟩
  · cases hf
theorem e_kind_lt {x : Nat} (h : x ≤ 5) : e_kind x < 4294967296 := by
  unfold e_kind
  cases Nat.ble x 2
  · show x - 1 < 4294967296
    omega
  · show x < 4294967296
    omega
theorem s_kald {y pc a b c9 : Nat} (hd : decode (cb y) pc = .ok (.iaload, 1)) : e_P y pc (f_kald a b c9) := by
  intro G B M d out E g r N hpc hf
  obtain ⟨p, l, e, R, s, m, args, below, meth, c, Q, c0, s0⟩ := M
  obtain ⟨hx, hb, hml, hown, hts, hX, hG, hlk, hin, hsh, hroom, hfr, htr, htab, hscr⟩ := N
  obtain ⟨pc', lo, st, h⟩ := g
  obtain rfl : pc' = pc := hpc
  obtain ⟨x, st2, rfl, hx5, rfl⟩ := i_kald hf
  refine ⟨_, rfl, fun hcF hsF k => ?_⟩
  intro H ls locs cells slots hH hl hc hs
  have hgx : giv G x = nI x := hG.2.1 x (by omega)
  show W p l e R s m args below meth c H locs cells slots Q (F0 m pc' ls (.int (giv G x) :: .ref (gad G 4095) :: st2.map (cV G)))
  refine va_ti (A := gF G) hx hb (hX.2.2.2.2.2.2.2.2.1.kept (e_old hsh.2.2)) hH.2.2 (i := giv G x) (by rw [hgx]; exact vp_in_nI' (by omega) (by omega)) (v := .int (giv G (e_kind x))) (by rw [hgx, nI_clamp (by omega), hG.2.1 _ (e_kind_lt hx5)]) hd ?_
  exact k H ls locs cells slots hH hl hc hs
/-! Math.min -/
theorem i_min {a b c9 : Nat} {E : eE} {B : eB} {pc : Nat} {lo : List (Nat × eV)} {st : List eV} {h : eH} {r : eG ⊕ eO} (hf : f_min a b c9 E B (pc, lo, st, h) = some r) : ∃ y x r2, st = .inl y :: .inl x :: r2 ∧ e_cat r2 ≤ 8 ∧ ((e_lt (e_rng B y) (e_rng B x) = some true ∧ r = .inl (pc + 3, lo, .inl y :: r2, h)) ∨ (e_lt (e_rng B y) (e_rng B x) = some false ∧ r = .inl (pc + 3, lo, .inl x :: r2, h))) := by
  unfold f_min at hf
  split at hf
  · rename_i p9 l9 y x r2 h9 heq
    cases heq
    cases hg : Nat.ble (e_cat r2) 8 with
    | false => rw [hg] at hf; cases hf
    | true =>
      rw [hg] at hf
      dsimp only [cond] at hf
      split at hf
      · rename_i h1
        cases hf
        exact ⟨y, x, r2, rfl, Nat.le_of_ble_eq_true hg, Or.inl ⟨h1, rfl⟩⟩
      · rename_i h1
        cases hf
        exact ⟨y, x, r2, rfl, Nat.le_of_ble_eq_true hg, Or.inr ⟨h1, rfl⟩⟩
      · cases hf
  · cases hf
theorem s_min {y pc a b c9 : Nat} (hw1 : Cond.methodLink (nm y).cls c9 Lib.Math.min.name ∈ GW) (hw2 : Cond.static Lib.Math.min.name ∈ GW) (hw3 : Cond.initialized "java/lang/Math" ∈ GW) (hw4 : Cond.code Lib.Math.min.name Lib.Math.min.code 2 (some .int) ∈ GW) (hd : decode (cb y) pc = .ok (.invokestatic c9, 3)) : e_P y pc (f_min a b c9) := by
  intro G B M d out E g r N hpc hf
  obtain ⟨p, l, e, R, s, m, args, below, meth, c, Q, c0, s0⟩ := M
  obtain ⟨hx, hb, hml, hown, hts, hX, hG, hlk, hin, hsh, hroom, hfr, htr, htab, hscr⟩ := N
  obtain ⟨pc', lo, st, h⟩ := g
  obtain rfl : pc' = pc := hpc
  obtain ⟨v, u, r2, rfl, hcat, hcase⟩ := i_min hf
  have key : ∀ (w : Nat), e_cn h ≤ e_cn out.2.2 → e_sl h ≤ e_sl out.2.2 → giv G w = (if giv G v < giv G u then giv G v else giv G u) → e_W G (p, l, e, R, s, m, args, below, meth, c, Q, c0, s0) y (pc' + 3, lo, .inl w :: r2, h) → e_W G (p, l, e, R, s, m, args, below, meth, c, Q, c0, s0) y (pc', lo, .inl v :: .inl u :: r2, h) := by
    intro w hcF hsF hw k
    intro H ls locs cells slots hH hl hc hs
    have hc2 : cells + c0 = e_cn h := hc
    have hs2 : slots + s0 = e_sl h := hs
    show W p l e R s m args below meth c H locs cells slots Q (F0 m pc' ls (.int (giv G v) :: .int (giv G u) :: r2.map (cV G)))
    refine va_mmin hx hb (by rw [hml]; exact hl.1.symm) hown (hts _ hw1) (hts _ hw2) (hts _ hw3) (hts _ hw4) (by omega) (by rw [e_cat_eq]; omega) (by omega) (by omega) hd ?_
    have := k H ls locs cells slots hH hl hc hs
    rw [← hw]
    exact this
  rcases hcase with ⟨h1, rfl⟩ | ⟨h1, rfl⟩
  · refine ⟨_, rfl, fun hcF hsF k => key v hcF hsF ?_ k⟩
    rw [if_pos ((e_lt_s (G := G) h1 (e_in hG v) (e_in hG u)).mpr rfl)]
  · refine ⟨_, rfl, fun hcF hsF k => key u hcF hsF ?_ k⟩
    rw [if_neg (fun q => by have := (e_lt_s (G := G) h1 (e_in hG v) (e_in hG u)).mp q; cases this)]
/-! runs -/
theorem e_run_s (T : xT eF 7) (t : xT eI 11) (E : eE) (B : eB) (n : Nat) (g : eG) : e_run T t E B (n + 1) g = e_next (e_run T t E B n) g (e_step T t E B g) := rfl
theorem i_next {ih : eG → Option eO} {g : eG} {r : eR} {o : eO} (h : e_next ih g r = some o) : (∃ g2, r = some (.inl g2) ∧ e_cn g.2.2.2 ≤ e_cn g2.2.2.2 ∧ e_sl g.2.2.2 ≤ e_sl g2.2.2.2 ∧ ih g2 = some o) ∨ (r = some (.inr o) ∧ e_cn g.2.2.2 ≤ e_cn o.2.2 ∧ e_sl g.2.2.2 ≤ e_sl o.2.2) := by
  unfold e_next at h
  split at h
  · cases h
  · rename_i g2
    cases hm : e_mono g.2.2.2 g2.2.2.2 with
    | false => rw [hm] at h; cases h
    | true =>
      rw [hm] at h
      unfold e_mono at hm
      simp only [Bool.and_eq_true] at hm
      exact Or.inl ⟨g2, rfl, Nat.le_of_ble_eq_true hm.1, Nat.le_of_ble_eq_true hm.2, h⟩
  · rename_i o2
    cases hm : e_mono g.2.2.2 o2.2.2 with
    | false => rw [hm] at h; cases h
    | true =>
      rw [hm] at h
      cases h
      unfold e_mono at hm
      simp only [Bool.and_eq_true] at hm
      exact Or.inr ⟨rfl, Nat.le_of_ble_eq_true hm.1, Nat.le_of_ble_eq_true hm.2⟩
theorem e_run_mono {T : xT eF 7} {t : xT eI 11} {E : eE} {B : eB} : ∀ (n : Nat) (g : eG) (o : eO), e_run T t E B n g = some o → e_cn g.2.2.2 ≤ e_cn o.2.2 ∧ e_sl g.2.2.2 ≤ e_sl o.2.2 := by
  intro n
  induction n with
  | zero => intro g o h; cases h
  | succ n ih =>
    intro g o h
    rw [e_run_s] at h
    rcases i_next h with ⟨g2, -, h1, h2, h3⟩ | ⟨-, h1, h2⟩
    · have := ih g2 o h3
      exact ⟨Nat.le_trans h1 this.1, Nat.le_trans h2 this.2⟩
    · exact ⟨h1, h2⟩
/-- every row of a method's table is sound -/
def e_Ok (T : xT eF 7) (t : xT eI 11) (y : Nat) : Prop := ∀ (d pc op a b c dd : Nat), pc < 2048 → op < 128 → xget eI 11 t pc = (op, a, b, c, dd) → e_S y pc d (xget eF 7 T op a b c)
theorem i_step {T : xT eF 7} {t : xT eI 11} {E : eE} {B : eB} {g : eG} {r : eG ⊕ eO} (h : e_step T t E B g = some r) : ∃ op a b c dd, xget eI 11 t g.1 = (op, a, b, c, dd) ∧ g.1 < 2048 ∧ op < 128 ∧ xget eF 7 T op a b c E B g = some r := by
  unfold e_step at h
  generalize hx : xget eI 11 t g.1 = x at h
  obtain ⟨op, a, b, c, dd⟩ := x
  dsimp only at h
  cases hg : (Nat.ble g.1 2047 && Nat.ble op 127) with
  | false => rw [hg] at h; cases h
  | true =>
    rw [hg] at h
    simp only [Bool.and_eq_true] at hg
    exact ⟨op, a, b, c, dd, rfl, Nat.lt_succ_of_le (Nat.le_of_ble_eq_true hg.1), Nat.lt_succ_of_le (Nat.le_of_ble_eq_true hg.2), h⟩
theorem e_run_ok {T : xT eF 7} {t : xT eI 11} {E : eE} {B : eB} {y d : Nat} (hO : e_Ok T t y) {G : GT} {M : MT} {out : eO} (N : e_N G B M y d out) (hE : e_EOK M.2.1 G d E) (hEnd : e_End G M y out) : ∀ (n : Nat) (g : eG), e_run T t E B n g = some out → e_W G M y g := by
  intro n
  induction n with
  | zero => intro g h; cases h
  | succ n ih =>
    intro g h
    rw [e_run_s] at h
    rcases i_next h with ⟨g2, hst, -, -, h3⟩ | ⟨hst, -, -⟩
    · obtain ⟨op, a, b, c, dd, hget, hpc, hop, hf⟩ := i_step hst
      have hm := e_run_mono n g2 out h3
      rcases hO d g.1 op a b c dd hpc hop hget G B M out E g _ N hE hEnd rfl hf with ⟨g3, e3, k⟩ | ⟨o, e3, -⟩
      · cases e3
        exact k hm.1 hm.2 (ih g2 h3)
      · cases e3
    · obtain ⟨op, a, b, c, dd, hget, hpc, hop, hf⟩ := i_step hst
      rcases hO d g.1 op a b c dd hpc hop hget G B M out E g _ N hE hEnd rfl hf with ⟨g3, e3, -⟩ | ⟨o, e3, k⟩
      · cases e3
      · cases e3
        exact k rfl
/-- so many steps -/
noncomputable def e_to (T : xT eF 7) (t : xT eI 11) (E : eE) (B : eB) (n : Nat) : eG → Option eG :=
  Nat.rec (motive := fun _ => eG → Option eG) (fun g => some g) (fun _ ih g => match e_step T t E B g with
    | some (.inl g2) => cond (e_mono g.2.2.2 g2.2.2.2) (ih g2) none
    | _ => none) n
theorem e_to_s (T : xT eF 7) (t : xT eI 11) (E : eE) (B : eB) (n : Nat) (g : eG) : e_to T t E B (n + 1) g = match e_step T t E B g with
    | some (.inl g2) => cond (e_mono g.2.2.2 g2.2.2.2) (e_to T t E B n g2) none
    | _ => none := rfl
theorem i_to {T : xT eF 7} {t : xT eI 11} {E : eE} {B : eB} {n : Nat} {g g9 : eG} (h : e_to T t E B (n + 1) g = some g9) : ∃ g2, e_step T t E B g = some (.inl g2) ∧ e_cn g.2.2.2 ≤ e_cn g2.2.2.2 ∧ e_sl g.2.2.2 ≤ e_sl g2.2.2.2 ∧ e_to T t E B n g2 = some g9 := by
  rw [e_to_s] at h
  split at h
  · rename_i g2 hst
    cases hm : e_mono g.2.2.2 g2.2.2.2 with
    | false => rw [hm] at h; cases h
    | true =>
      rw [hm] at h
      unfold e_mono at hm
      simp only [Bool.and_eq_true] at hm
      exact ⟨g2, hst, Nat.le_of_ble_eq_true hm.1, Nat.le_of_ble_eq_true hm.2, h⟩
  · cases h
theorem e_to_mono {T : xT eF 7} {t : xT eI 11} {E : eE} {B : eB} : ∀ (n : Nat) (g g9 : eG), e_to T t E B n g = some g9 → e_cn g.2.2.2 ≤ e_cn g9.2.2.2 ∧ e_sl g.2.2.2 ≤ e_sl g9.2.2.2 := by
  intro n
  induction n with
  | zero => intro g g9 h; cases h; exact ⟨Nat.le_refl _, Nat.le_refl _⟩
  | succ n ih =>
    intro g g9 h
    obtain ⟨g2, -, h1, h2, h3⟩ := i_to h
    have := ih g2 g9 h3
    exact ⟨Nat.le_trans h1 this.1, Nat.le_trans h2 this.2⟩
theorem e_to_ok {T : xT eF 7} {t : xT eI 11} {E : eE} {B : eB} {y d : Nat} (hO : e_Ok T t y) {G : GT} {M : MT} {out : eO} (N : e_N G B M y d out) (hE : e_EOK M.2.1 G d E) (hEnd : e_End G M y out) {g9 : eG} (hc9 : e_cn g9.2.2.2 ≤ e_cn out.2.2) (hs9 : e_sl g9.2.2.2 ≤ e_sl out.2.2) (k9 : e_W G M y g9) : ∀ (n : Nat) (g : eG), e_to T t E B n g = some g9 → e_W G M y g := by
  intro n
  induction n with
  | zero => intro g h; cases h; exact k9
  | succ n ih =>
    intro g h
    obtain ⟨g2, hst, -, -, h3⟩ := i_to h
    obtain ⟨op, a, b, c, dd, hget, hpc, hop, hf⟩ := i_step hst
    have hm := e_to_mono n g2 g9 h3
    rcases hO d g.1 op a b c dd hpc hop hget G B M out E g _ N hE hEnd rfl hf with ⟨g3, e3, k⟩ | ⟨o, e3, -⟩
    · cases e3
      exact k (Nat.le_trans hm.1 hc9) (Nat.le_trans hm.2 hs9) (ih g2 h3)
    · cases e3
/-! methods -/
theorem e_slen {G : GT} : ∀ vs : List eV, (lg_sl (vs.map (cV G))).length = e_cat vs := by
  intro vs
  induction vs with
  | nil => rfl
  | cons v r ih =>
    show (lg_sl (cV G v :: r.map (cV G))).length = cond (e_wide v) 2 1 + e_cat r
    unfold lg_sl at ih ⊢
    rw [List.flatMap_cons, List.length_append, ih]
    congr 1
    rcases v with n | n | n
    · rfl
    · rfl
    · cases n <;> rfl
theorem e_name {y : MethodName} {s : State} {m : MethodId} {meth : Method} (h1 : s.methodNamed? y = some m) (h2 : s.vm.method? m = some meth) : meth.name = y.name := (name_of_methodNamed h1 h2).1
theorem e_any_inv {f : Nat → Option eO} {o : eO} (h : e_any f = some o) : ∃ n, f n = some o := by
  unfold e_any at h
  split at h
  · exact ⟨_, h⟩
  · cases h
set_option maxHeartbeats 1000000 in
theorem e_eval_ok {T : xT eF 7} {P : xT (xT eI 11) 9} {B : eB} {l : Launch} {G : GT} (hG : e_GOK G B) (htr : l.stackTraces = false) (hO : ∀ y, isPr y = false → e_Ok T (xget (xT eI 11) 9 P y) y) (hpl : ∀ y, isPr y = false → plainName (nm y).cls = true)
    (hy1 : nm 265 = yJ7_fill_53178 ∧ e_ws 265 = Cond.code yJ7_fill_53178 cJ7_fill_53178 4 none :: GW) (hy2 : nm 266 = yJ7_fill_d0a16 ∧ e_ws 266 = Cond.code yJ7_fill_d0a16 cJ7_fill_d0a16 5 none :: GW) (hy3 : nm 267 = yJ7_fill_031fb ∧ e_ws 267 = Cond.code yJ7_fill_031fb cJ7_fill_031fb 4 none :: GW)
    (hps : ∀ d y as h o, 268 ≤ y → e_pstr y as h = some o → e_Met l G (d + 1) y as h o ∧ o.2.2 = h) : ∀ d, e_EOK l G d (e_eval T P ml B d) := by
  intro d
  induction d with
  | zero => intro y as h o _ he; cases he
  | succ d ih =>
    intro y as h o hy0 he
    have he' : cond (isPr y) (e_prim y as h) (cond (Nat.ble (e_cat as) (ml y)) (e_run T (xget (xT eI 11) 9 P y) (e_eval T P ml B d) B 5000 (0, e_args 0 as, [], h)) none) = some o := he
    cases hp : isPr y with
    | true =>
      rw [hp] at he'
      have he2 : e_prim y as h = some o := he'
      unfold e_prim at he2
      cases hp8 : Nat.ble 268 y with
      | true =>
        rw [hp8] at he2
        have he3 : e_pstr y as h = some o := he2
        obtain ⟨q1, q2⟩ := hps d y as h o (Nat.le_of_ble_eq_true hp8) he3
        exact ⟨by rw [q2]; exact Nat.le_refl _, by rw [q2]; exact Nat.le_refl _, q1⟩
      | false =>
      rw [hp8] at he2
      dsimp only [cond] at he2
      split at he2
      · rename_i q v
        generalize hge : e_get h q = z at he2
        obtain ⟨k, n, f⟩ := z
        dsimp only at he2
        cases hg : (Nat.ble (q + 1) (e_sz h) && Nat.ble n 1000000 && ((Nat.beq y 265 && Nat.beq k 100 && e_typ 0 v) || (Nat.beq y 266 && Nat.beq k 102 && e_typ 2 v) || (Nat.beq y 267 && Nat.beq k 101 && e_typ 4 v))) with
        | false => rw [hg] at he2; cases he2
        | true =>
          rw [hg] at he2
          cases he2
          simp only [Bool.and_eq_true, Bool.or_eq_true] at hg
          refine ⟨Nat.le_refl _, Nat.le_refl _, ?_⟩
          have e1 : e_cn (e_set h q (k, n, fun _ => v)) - e_cn h = 0 := Nat.sub_self _
          have e2 : e_sl (e_set h q (k, n, fun _ => v)) - e_sl h = 0 := Nat.sub_self _
          unfold e_Met
          show vx_Met l (nm y) (e_ws y) (e_rm (d + 1) (e_cn (e_set h q (k, n, fun _ => v)) - e_cn h) (e_sl (e_set h q (k, n, fun _ => v)) - e_sl h)) _ _ _ (e_cn (e_set h q (k, n, fun _ => v)) - e_cn h) (e_sl (e_set h q (k, n, fun _ => v)) - e_sl h) _
          rw [e1, e2]
          have hq := Nat.le_of_ble_eq_true hg.1.1
          have hn := Nat.le_of_ble_eq_true hg.1.2
          rcases hg.2 with (⟨⟨g1, g2⟩, g3⟩ | ⟨⟨g1, g2⟩, g3⟩) | ⟨⟨g1, g2⟩, g3⟩
          · have ey := Nat.eq_of_beq_eq_true g1
            have ek := Nat.eq_of_beq_eq_true g2
            subst ey
            subst ek
            obtain ⟨x, rfl⟩ := e_typ_i (Or.inl rfl) g3
            exact c_fillI hG hy1.1 hy1.2 hge hq hn
          · have ey := Nat.eq_of_beq_eq_true g1
            have ek := Nat.eq_of_beq_eq_true g2
            subst ey
            subst ek
            obtain ⟨x, rfl⟩ := e_typ_l g3
            exact c_fillL hG hy2.1 hy2.2 hge hq hn
          · have ey := Nat.eq_of_beq_eq_true g1
            have ek := Nat.eq_of_beq_eq_true g2
            subst ey
            subst ek
            obtain ⟨x, rfl⟩ := e_typ_i (Or.inr rfl) g3
            exact c_fillB hG hy3.1 hy3.2 hge hq hn g3
      · cases he2
    | false =>
      rw [hp] at he'
      have hy265 : isPr y = false := hp
      cases hcat : Nat.ble (e_cat as) (ml y) with
      | false => rw [hcat] at he'; cases he'
      | true =>
        rw [hcat] at he'
        have hrun : e_run T (xget (xT eI 11) 9 P y) (e_eval T P ml B d) B 5000 (0, e_args 0 as, [], h) = some o := he'
        have hm := e_run_mono _ _ _ hrun
        have hm1 : e_cn h ≤ e_cn o.2.2 := hm.1
        have hm2 : e_sl h ≤ e_sl o.2.2 := hm.2
        have hcat2 := Nat.le_of_ble_eq_true hcat
        refine ⟨hm1, hm2, ?_⟩
        have core : ∀ (p : Program) (e : Env) (s : State) (m : MethodId) (args : Array Value) (below : List Frame) (meth : Method) (c : Code) (s₁ : State), BodyLoose p l (nm y) (headSpec (e_ws y) (e_rm (d + 1) (e_cn o.2.2 - e_cn h) (e_sl o.2.2 - e_sl h))) (cb y) (ml y) (rt y) e s m args below meth c s₁ → c.maxLocals = ml y → c.exceptionTable.toList = tableOf (mh y) → e_Pc G h as args s →
            W p l e (headSpec (e_ws y) (e_rm (d + 1) (e_cn o.2.2 - e_cn h) (e_sl o.2.2 - e_sl h))).room s m args below meth c s.heap [] 0 0 (vx_MQ below (e_Qc G o) (e_Xc G o) args s (e_cn o.2.2 - e_cn h) (e_sl o.2.2 - e_sl h) (gF G)) (entryFrame m args (ml y)) := by
          intro p e s m args below meth c s₁ Bd hml htab hv
          obtain ⟨rfl, hBW, hX, hz1, hz2⟩ := hv
          have hts : ∀ w ∈ GW, w.before (as.map (cV G)).toArray s = true := fun w hw => atoms_spec (ws := e_ws y) Bd.pre w (by unfold e_ws; exact List.mem_cons_of_mem _ hw)
          have N : e_N G B (p, l, e, (headSpec (e_ws y) (e_rm (d + 1) (e_cn o.2.2 - e_cn h) (e_sl o.2.2 - e_sl h))).room, s, m, (as.map (cV G)).toArray, below, meth, c, vx_MQ below (e_Qc G o) (e_Xc G o) (as.map (cV G)).toArray s (e_cn o.2.2 - e_cn h) (e_sl o.2.2 - e_sl h) (gF G), e_cn h, e_sl h) y d o :=
            ⟨Bd.exec, Bd.bytes, hml, findClass_of_methodNamed Bd.named, hts, hX, hG, Bd.notSynchronized, fun hn => (e_name Bd.named Bd.method).trans hn, ⟨hz1, hz2, hBW.2.2⟩, ⟨by show e_cn o.2.2 ≤ e_cn o.2.2 - e_cn h + e_cn h; omega, by show e_sl o.2.2 ≤ e_sl o.2.2 - e_sl h + e_sl h; omega⟩, ⟨by show d + 11 ≤ d + 1 + 10; omega, by show 60 * (d + 1) + 200 ≤ 60 * (d + 1) + 200; omega⟩, htr, htab, fun h0 => absurd h0 hy0⟩
          have hW := e_run_ok (hO y hy265) N ih (e_End_body N Bd.returns rfl) 5000 _ hrun
          rw [lg_entry_eq]
          have hl := lv_entry (as.map (cV G)) (n := ml y) (by rw [e_slen]; exact hcat2)
          rw [← cLo_args] at hl
          exact hW s.heap _ [] 0 0 ⟨hBW.1, hBW.2.1, va_S.rf⟩ hl (Nat.zero_add _) (Nat.zero_add _)
        unfold e_Met
        by_cases hmh : mh y = []
        · refine vx_ofW (cc := cb y) (maxL := ml y) (ret := rt y) (ws' := GW) (hpl y hy265) (by unfold e_ws; rw [if_pos hmh]) ?_
          intro p e s m args below meth c s₁ Bd hml htab hv
          refine core p e s m args below meth c s₁ Bd hml ?_ hv
          rw [hmh]
          show c.exceptionTable.toList = []
          cases hL : c.exceptionTable.toList with
          | nil => rfl
          | cons x r => exact (htab x (by rw [hL]; exact List.mem_cons_self)).elim
        · refine vx_ofWH (cc := cb y) (maxL := ml y) (ret := rt y) (hh := mh y) (ws' := GW) (hpl y hy265) (by unfold e_ws; rw [if_neg hmh]) ?_
          intro p e s m args below meth c s₁ Bd hml hv
          refine core p e s m args below meth c s₁ Bd hml ?_ hv
          exact vx_table (x := nm y) Bd (atoms_spec (ws := e_ws y) Bd.pre _ (by unfold e_ws; rw [if_neg hmh]; exact List.mem_cons_self))
set_option maxHeartbeats 1000000 in
theorem e_evC_ok {T : xT eF 7} {P : xT (xT eI 11) 9} {B : eB} {l : Launch} {G : GT} (hG : e_GOK G B) (htr : l.stackTraces = false) (hO : ∀ y, isPr y = false → e_Ok T (xget (xT eI 11) 9 P y) y) (hpl : ∀ y, isPr y = false → plainName (nm y).cls = true)
    (hy1 : nm 265 = yJ7_fill_53178 ∧ e_ws 265 = Cond.code yJ7_fill_53178 cJ7_fill_53178 4 none :: GW) (hy2 : nm 266 = yJ7_fill_d0a16 ∧ e_ws 266 = Cond.code yJ7_fill_d0a16 cJ7_fill_d0a16 5 none :: GW) (hy3 : nm 267 = yJ7_fill_031fb ∧ e_ws 267 = Cond.code yJ7_fill_031fb cJ7_fill_031fb 4 none :: GW)
    (hps : ∀ d y as h o, 268 ≤ y → e_pstr y as h = some o → e_Met l G (d + 1) y as h o ∧ o.2.2 = h) : ∀ d, e_EOK l G d (e_evC T P ml B d) := by
  intro d
  induction d with
  | zero => intro y as h o _ he; cases he
  | succ d ih =>
    intro y as h o hy0 he
    have he' : cond (isPr y) (e_prim y as h) (cond (Nat.ble (e_cat as) (ml y)) (e_any fun n => e_run T (xget (xT eI 11) 9 P y) (e_evC T P ml B d) B n (0, e_args 0 as, [], h)) none) = some o := he
    cases hp : isPr y with
    | true =>
      rw [hp] at he'
      have he2 : e_prim y as h = some o := he'
      unfold e_prim at he2
      cases hp8 : Nat.ble 268 y with
      | true =>
        rw [hp8] at he2
        have he3 : e_pstr y as h = some o := he2
        obtain ⟨q1, q2⟩ := hps d y as h o (Nat.le_of_ble_eq_true hp8) he3
        exact ⟨by rw [q2]; exact Nat.le_refl _, by rw [q2]; exact Nat.le_refl _, q1⟩
      | false =>
      rw [hp8] at he2
      dsimp only [cond] at he2
      split at he2
      · rename_i q v
        generalize hge : e_get h q = z at he2
        obtain ⟨k, n, f⟩ := z
        dsimp only at he2
        cases hg : (Nat.ble (q + 1) (e_sz h) && Nat.ble n 1000000 && ((Nat.beq y 265 && Nat.beq k 100 && e_typ 0 v) || (Nat.beq y 266 && Nat.beq k 102 && e_typ 2 v) || (Nat.beq y 267 && Nat.beq k 101 && e_typ 4 v))) with
        | false => rw [hg] at he2; cases he2
        | true =>
          rw [hg] at he2
          cases he2
          simp only [Bool.and_eq_true, Bool.or_eq_true] at hg
          refine ⟨Nat.le_refl _, Nat.le_refl _, ?_⟩
          have e1 : e_cn (e_set h q (k, n, fun _ => v)) - e_cn h = 0 := Nat.sub_self _
          have e2 : e_sl (e_set h q (k, n, fun _ => v)) - e_sl h = 0 := Nat.sub_self _
          unfold e_Met
          show vx_Met l (nm y) (e_ws y) (e_rm (d + 1) (e_cn (e_set h q (k, n, fun _ => v)) - e_cn h) (e_sl (e_set h q (k, n, fun _ => v)) - e_sl h)) _ _ _ (e_cn (e_set h q (k, n, fun _ => v)) - e_cn h) (e_sl (e_set h q (k, n, fun _ => v)) - e_sl h) _
          rw [e1, e2]
          have hq := Nat.le_of_ble_eq_true hg.1.1
          have hn := Nat.le_of_ble_eq_true hg.1.2
          rcases hg.2 with (⟨⟨g1, g2⟩, g3⟩ | ⟨⟨g1, g2⟩, g3⟩) | ⟨⟨g1, g2⟩, g3⟩
          · have ey := Nat.eq_of_beq_eq_true g1
            have ek := Nat.eq_of_beq_eq_true g2
            subst ey
            subst ek
            obtain ⟨x, rfl⟩ := e_typ_i (Or.inl rfl) g3
            exact c_fillI hG hy1.1 hy1.2 hge hq hn
          · have ey := Nat.eq_of_beq_eq_true g1
            have ek := Nat.eq_of_beq_eq_true g2
            subst ey
            subst ek
            obtain ⟨x, rfl⟩ := e_typ_l g3
            exact c_fillL hG hy2.1 hy2.2 hge hq hn
          · have ey := Nat.eq_of_beq_eq_true g1
            have ek := Nat.eq_of_beq_eq_true g2
            subst ey
            subst ek
            obtain ⟨x, rfl⟩ := e_typ_i (Or.inr rfl) g3
            exact c_fillB hG hy3.1 hy3.2 hge hq hn g3
      · cases he2
    | false =>
      rw [hp] at he'
      have hy265 : isPr y = false := hp
      cases hcat : Nat.ble (e_cat as) (ml y) with
      | false => rw [hcat] at he'; cases he'
      | true =>
        rw [hcat] at he'
        obtain ⟨nn, hrun⟩ := e_any_inv (f := fun n => e_run T (xget (xT eI 11) 9 P y) (e_evC T P ml B d) B n (0, e_args 0 as, [], h)) he'
        have hm := e_run_mono _ _ _ hrun
        have hm1 : e_cn h ≤ e_cn o.2.2 := hm.1
        have hm2 : e_sl h ≤ e_sl o.2.2 := hm.2
        have hcat2 := Nat.le_of_ble_eq_true hcat
        refine ⟨hm1, hm2, ?_⟩
        have core : ∀ (p : Program) (e : Env) (s : State) (m : MethodId) (args : Array Value) (below : List Frame) (meth : Method) (c : Code) (s₁ : State), BodyLoose p l (nm y) (headSpec (e_ws y) (e_rm (d + 1) (e_cn o.2.2 - e_cn h) (e_sl o.2.2 - e_sl h))) (cb y) (ml y) (rt y) e s m args below meth c s₁ → c.maxLocals = ml y → c.exceptionTable.toList = tableOf (mh y) → e_Pc G h as args s →
            W p l e (headSpec (e_ws y) (e_rm (d + 1) (e_cn o.2.2 - e_cn h) (e_sl o.2.2 - e_sl h))).room s m args below meth c s.heap [] 0 0 (vx_MQ below (e_Qc G o) (e_Xc G o) args s (e_cn o.2.2 - e_cn h) (e_sl o.2.2 - e_sl h) (gF G)) (entryFrame m args (ml y)) := by
          intro p e s m args below meth c s₁ Bd hml htab hv
          obtain ⟨rfl, hBW, hX, hz1, hz2⟩ := hv
          have hts : ∀ w ∈ GW, w.before (as.map (cV G)).toArray s = true := fun w hw => atoms_spec (ws := e_ws y) Bd.pre w (by unfold e_ws; exact List.mem_cons_of_mem _ hw)
          have N : e_N G B (p, l, e, (headSpec (e_ws y) (e_rm (d + 1) (e_cn o.2.2 - e_cn h) (e_sl o.2.2 - e_sl h))).room, s, m, (as.map (cV G)).toArray, below, meth, c, vx_MQ below (e_Qc G o) (e_Xc G o) (as.map (cV G)).toArray s (e_cn o.2.2 - e_cn h) (e_sl o.2.2 - e_sl h) (gF G), e_cn h, e_sl h) y d o :=
            ⟨Bd.exec, Bd.bytes, hml, findClass_of_methodNamed Bd.named, hts, hX, hG, Bd.notSynchronized, fun hn => (e_name Bd.named Bd.method).trans hn, ⟨hz1, hz2, hBW.2.2⟩, ⟨by show e_cn o.2.2 ≤ e_cn o.2.2 - e_cn h + e_cn h; omega, by show e_sl o.2.2 ≤ e_sl o.2.2 - e_sl h + e_sl h; omega⟩, ⟨by show d + 11 ≤ d + 1 + 10; omega, by show 60 * (d + 1) + 200 ≤ 60 * (d + 1) + 200; omega⟩, htr, htab, fun h0 => absurd h0 hy0⟩
          have hW := e_run_ok (hO y hy265) N ih (e_End_body N Bd.returns rfl) nn _ hrun
          rw [lg_entry_eq]
          have hl := lv_entry (as.map (cV G)) (n := ml y) (by rw [e_slen]; exact hcat2)
          rw [← cLo_args] at hl
          exact hW s.heap _ [] 0 0 ⟨hBW.1, hBW.2.1, va_S.rf⟩ hl (Nat.zero_add _) (Nat.zero_add _)
        unfold e_Met
        by_cases hmh : mh y = []
        · refine vx_ofW (cc := cb y) (maxL := ml y) (ret := rt y) (ws' := GW) (hpl y hy265) (by unfold e_ws; rw [if_pos hmh]) ?_
          intro p e s m args below meth c s₁ Bd hml htab hv
          refine core p e s m args below meth c s₁ Bd hml ?_ hv
          rw [hmh]
          show c.exceptionTable.toList = []
          cases hL : c.exceptionTable.toList with
          | nil => rfl
          | cons x r => exact (htab x (by rw [hL]; exact List.mem_cons_self)).elim
        · refine vx_ofWH (cc := cb y) (maxL := ml y) (ret := rt y) (hh := mh y) (ws' := GW) (hpl y hy265) (by unfold e_ws; rw [if_neg hmh]) ?_
          intro p e s m args below meth c s₁ Bd hml hv
          refine core p e s m args below meth c s₁ Bd hml ?_ hv
          exact vx_table (x := nm y) Bd (atoms_spec (ws := e_ws y) Bd.pre _ (by unfold e_ws; rw [if_neg hmh]; exact List.mem_cons_self))
