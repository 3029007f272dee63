/-! ===== from the law's entry (written by wip/layer3/startq.py; rows of the kit's skeleton among them) ===== -/
theorem e_arr {ty : FieldType} {args : Array Value} {s : State} (h : (Cond.arrayClass ty).before args s = true) : ∃ cA, ArrOfT s cA ty ∧ s.vm.findClass ("[" ++ ty.toString) = some cA := by
  obtain ⟨c, k, comp, h1, h2, h3⟩ := Cond.arrayClass_spec h
  exact ⟨c, fun N z => ⟨(fun k h => by cases h), k, h2, comp, h3⟩, h1⟩
theorem e_arrO {C : String} {s : State} (h : va_AO C s) : ∃ cA, ArrOfT s cA (.object C) ∧ va_RA s cA (.object C) := by
  obtain ⟨comp, c, k, h1, -, h3, h4, h5⟩ := Cond.arrayOver_spec h
  exact ⟨c, fun N z => ⟨(fun k h => by cases h), k, h3, comp, h4⟩, k, comp, h3, h4, h1, h5⟩
theorem e_arrA {s : State} (h : va_AOA .long s) : ∃ cA, ArrOfT s cA (.array .long) ∧ va_RA s cA (.array .long) := by
  have h : (Cond.arrayOver (.array .long)).before #[] s = true := h
  simp only [Cond.before, Cond.holds, Cond.value, beq_iff_eq] at h
  cases hc : s.vm.findClass (FieldType.array .long).toString with
  | none => simp [hc] at h
  | some comp =>
    simp only [hc, Option.bind_some, Option.bind_eq_some_iff, Option.map_eq_some_iff] at h
    obtain ⟨c, hi, k, hk, hb⟩ := h
    cases hkind : k.kind with
    | array component ty =>
      rw [hkind] at hb
      simp at hb
      exact ⟨c, fun N z => ⟨(fun k h => by cases h), k, hk, component, by rw [hkind, hb.1]⟩, hb.2⟩
    | _ => rw [hkind] at hb; simp at hb
/-- the numbers: plain, the script's -/
def ivF (xs : Nat → Int32) (n : Nat) : Int32 := if n < 4294967296 then nI n else xs (n - 1099511627776)
theorem ivF_1 {xs : Nat → Int32} {n : Nat} (h : n < 4294967296) : ivF xs n = nI n := if_pos h
theorem ivF_2 {xs : Nat → Int32} (j : Nat) : ivF xs (1099511627776 + j) = xs j := by
  unfold ivF
  rw [if_neg (by omega), Nat.add_sub_cancel_left]
theorem e_K_max (x : Int32) : e_K x ≤ 4294967295 := by
  have h1 := Int32.le_toInt x
  have h2 := Int32.toInt_lt x
  unfold e_K
  omega
theorem flS_in {A : Array Value} {s : State} (hgv : (Jvm.Cond.and given_1 narrow_1).before A s = true) {i : Nat} {c : Cond} (h : flS[i]? = some c) : c.before A s = true := flat_of_before _ hgv c (List.mem_of_getElem? h)
theorem st_all {A : Array Value} {s : State} (hgv : (Jvm.Cond.and given_1 narrow_1).before A s = true) {i : Nat} (hi : i < 36) : (Cond.exactly (tmS i) "java/lang/String").before A s = true ∧ (Cond.eq (.field (tmS i) "java/lang/String" "coder" "B") (.int 0)).before A s = true ∧ (Cond.arrayOf (fvS i) .byte).before A s = true ∧ (Cond.eq (.length (fvS i)) (.int (Int32.ofNat (lenS.getD i 0)))).before A s = true ∧ ∀ j, j < lenS.getD i 0 → (Cond.eq (.elem (fvS i) (.int (Int32.ofNat j))) (.int ((bytS.getD i []).getD j 0))).before A s = true := by
  have h := ck_strs i hi
  unfold chS at h
  simp only [Bool.and_eq_true, decide_eq_true_eq] at h
  obtain ⟨⟨⟨⟨h1, h2⟩, h3⟩, h4⟩, h5⟩ := h
  exact ⟨flS_in hgv h1, flS_in hgv h2, flS_in hgv h3, flS_in hgv h4, fun j hj => flS_in hgv (of_decide_eq_true (List.all_eq_true.mp h5 j (List.mem_range.mpr hj)))⟩
theorem ev_field {A : Array Value} {s : State} {t u : Term} {v : Value} {o n d : String} (h1 : t.eval A s none [] s = some v) (h2 : u.eval A s none [] s = some v) : (Term.field t o n d).eval A s none [] s = (Term.field u o n d).eval A s none [] s := by
  simp only [Term.eval, h1, h2]
theorem ev_len {A : Array Value} {s : State} {t u : Term} (h : t.eval A s none [] s = u.eval A s none [] s) : (Term.length t).eval A s none [] s = (Term.length u).eval A s none [] s := by
  simp only [Term.eval, h]
theorem ev_elem {A : Array Value} {s : State} {t u k : Term} (h : t.eval A s none [] s = u.eval A s none [] s) : (Term.elem t k).eval A s none [] s = (Term.elem u k).eval A s none [] s := by
  simp only [Term.eval, h]
theorem st_strs {A : Array Value} {s : State} (hgv : (Jvm.Cond.and given_1 narrow_1).before A s = true) {F : Nat → Prop} (hA : ∀ a : Nat, a < s.heap.size → ¬ F a) : ∃ adK adV : Nat → Nat, vk_S 36 lenS bytS adK adV F s s.heap ∧ ∀ i : Nat, i < 36 → (tmS i).eval A s none [] s = some (.ref (adK i)) := by
  have h0 : ∀ i : Nat, ∃ q : Nat × Nat, i < 36 → (tmS i).eval A s none [] s = some (.ref q.1) ∧ va_O "java/lang/String" q.1 F s s.heap ∧ va_OF "java/lang/String" "coder" "B" (.int 0) q.1 F s s.heap ∧ va_OF "java/lang/String" "value" "[B" (.ref q.2) q.1 F s s.heap ∧ va_T .byte q.2 (lenS.getD i 0) (fun j => .int ((bytS.getD i []).getD j 0)) F s s.heap := by
    intro i
    by_cases hi : i < 36
    · obtain ⟨g1, g2, g3, g4, g5⟩ := st_all hgv hi
      have h40 := j_len40 hi
      obtain ⟨a, c, cA, kA, q1, q2, q3, q4, q5, q6, -⟩ := Cond.exactly_spec (args := A) (first := s) (o := none) (s := s) (idx := []) (t := tmS i) (cls := "java/lang/String") g1
      obtain ⟨t, ht, hT⟩ := va_Tof (f := fun j => .int ((bytS.getD i []).getD j 0)) (A := F) (by omega) g3 (va_eqt g4) (fun j hj => va_eqt (g5 j hj)) hA
      exact ⟨(a, t), fun _ => ⟨q1, ⟨cA, q3, q5, by rw [q6]; exact q2, hA a (Array.getElem?_eq_some_iff.mp q3).1⟩, vk_OFof q1 (va_eqt g2) hA, vk_OFof q1 ht hA, hT⟩⟩
    · exact ⟨(0, 0), fun h => absurd h hi⟩
  obtain ⟨ad, had⟩ := Classical.axiomOfChoice h0
  refine ⟨fun i => (ad i).1, fun i => (ad i).2, ⟨fun i hi => (had i hi).2, fun i j hi hj e => ?_⟩, fun i hi => (had i hi).1⟩
  refine Classical.byContradiction fun hij => ?_
  have h1 := (had i hi).1
  have h2 := (had j hj).1
  have e9 : (ad i).1 = (ad j).1 := e
  rw [e9] at h1
  have ef : (fvS i).eval A s none [] s = (fvS j).eval A s none [] s := ev_field h1 h2
  obtain ⟨-, -, -, a4, a5⟩ := st_all hgv hi
  obtain ⟨-, -, -, b4, b5⟩ := st_all hgv hj
  have hd := List.all_eq_true.mp (List.all_eq_true.mp ck_dis i (List.mem_range.mpr hi)) j (List.mem_range.mpr hj)
  simp only [Bool.or_eq_true, Bool.and_eq_true, decide_eq_true_eq, List.any_eq_true, List.mem_range] at hd
  rcases hd with (hd | hd) | ⟨hl, x, hx, hd⟩
  · exact hij hd
  · have q1 := va_eqt a4
    rw [ev_len ef, va_eqt b4] at q1
    exact hd (by injection q1 with q1; injection q1 with q1; exact q1.symm)
  · have q1 := va_eqt (a5 x hx)
    rw [ev_elem ef, va_eqt (b5 x (by omega))] at q1
    exact hd (by injection q1 with q1; injection q1 with q1; exact q1.symm)
theorem GW_tbl {w : Cond} (h : w ∈ GW) : w ∈ lw_tbl := (List.mem_filter.mp h).1
theorem e_start {A : Array Value} {s : State} {b : Nat} {xs : Nat → Int32} (hts : ∀ w ∈ lw_tbl, w.before A s = true) (hgv : (Jvm.Cond.and given_1 narrow_1).before A s = true) : ∃ G : GT, gb G = s.heap.size ∧ gH G = s.heap ∧ gad G 4096 = b ∧ giv G = ivF xs ∧ (∀ k, k < 2048 → gad G k = gb G + k) ∧ e_X G s := by
  have hG : ∀ w ∈ GW, w.before A s = true := fun w hw => hts w (GW_tbl hw)
  have hfl := flat_of_before _ hgv
  have h13 : ∀ a : Nat, ∃ q : ClassId × (Nat → Nat), ∀ z : vw_C, vwCl[a]? = some z → u_Kn s z.1 z.2.1 z.2.2 q.1 q.2 := by
    intro a
    cases ha : vwCl[a]? with
    | none => exact ⟨(0, fun _ => 0), fun z hz => by cases hz⟩
    | some z =>
      obtain ⟨C, T, N⟩ := z
      obtain ⟨cC, iS, h⟩ := u_known (C := C) (T := T) (N := N) (n := N) hG (q_cls ha) (hG _ (q_in ha).1)
      exact ⟨(cC, iS), fun z hz => by cases hz; exact h⟩
  obtain ⟨D, hD⟩ := Classical.axiomOfChoice h13
  obtain ⟨adK, adV, hvk, hev⟩ := st_strs (F := fun q => s.heap.size ≤ q) hgv (fun a ha => Nat.not_le.mpr ha)
  obtain ⟨t0, ht0, hT0⟩ := va_Tof (f := fun j => .int (nI (e_kind j))) (A := fun q => s.heap.size ≤ q) (N := 6) (by decide) (flS_in hgv w_kind.1) (va_eqt (flS_in hgv w_kind.2.1)) (fun j hj => va_eqt (flS_in hgv (w_kinds j hj))) (fun a ha => Nat.not_le.mpr ha)
  have hAO : va_AO "IslandHall$Code" s := va_AO.of (hts _ w_over.1)
  have hAA : va_AOA .long s := hts _ w_over.2
  obtain ⟨c0, i1, i2⟩ := e_arr (hG _ q_arr.1)
  obtain ⟨c1, i3, i4⟩ := e_arr (hG _ q_arr.2.1)
  obtain ⟨c2, i5, i6⟩ := e_arr (hG _ q_arr.2.2)
  obtain ⟨c3, i7, i8⟩ := e_arrO hAO
  obtain ⟨c4, i9, i10⟩ := e_arrA hAA
  refine ⟨((fun a => (D a).1, fun a => (D a).2), (fun n => if n = 100 then c0 else if n = 101 then c1 else if n = 102 then c2 else if n = 103 then c3 else c4), s.heap.size, (fun k => if k < 2048 then s.heap.size + k else if k = 4095 then t0 else if k = 4096 then b else if k < 4300 then adK (k - 4097) else adV (k - 4300)), ivF xs, s.heap), rfl, rfl, rfl, rfl, fun k hk => if_pos hk, ?_⟩
  have gK : ∀ i, i < 36 → (if 4097 + i < 2048 then s.heap.size + (4097 + i) else if 4097 + i = 4095 then t0 else if 4097 + i = 4096 then b else if 4097 + i < 4300 then adK (4097 + i - 4097) else adV (4097 + i - 4300)) = adK i := fun i hi => by rw [if_neg (by omega), if_neg (by omega), if_neg (by omega), if_pos (by omega), Nat.add_sub_cancel_left]
  have gV : ∀ i, (if 4300 + i < 2048 then s.heap.size + (4300 + i) else if 4300 + i = 4095 then t0 else if 4300 + i = 4096 then b else if 4300 + i < 4300 then adK (4300 + i - 4097) else adV (4300 + i - 4300)) = adV i := fun i => by rw [if_neg (by omega), if_neg (by omega), if_neg (by omega), if_neg (by omega), Nat.add_sub_cancel_left]
  refine ⟨⟨fun c q hq => hD c q hq, ?_⟩, hAO, hAA, ?_, ?_, ?_, ?_, ?_, ?_, ?_, ?_⟩
  · intro k q hq
    match k, hq with
    | 0, hq => cases hq; exact ⟨i1, i2⟩
    | 1, hq => cases hq; exact ⟨i3, i4⟩
    | 2, hq => cases hq; exact ⟨i5, i6⟩
    | 3, hq => cases hq; exact ⟨i7, i8⟩
    | 4, hq => cases hq; exact ⟨i9, i10⟩
    | k + 5, hq => simp at hq
  · exact vx_Zqof (hts _ w_lays.1) (hts _ w_lays.2.2) (hfl _ w_isr.1) (fun a ha => Nat.not_le.mpr ha)
  · exact vx_Zqof (hts _ w_lays.2.1) (hts _ w_lays.2.2) (hfl _ w_isr.2) (fun a ha => Nat.not_le.mpr ha)
  · intro i q hq
    have hi : i < 36 := (List.getElem?_eq_some_iff.mp hq).1
    show vk_R q.1 q.2.1 q.2.2 (if 4097 + i < 2048 then s.heap.size + (4097 + i) else if 4097 + i = 4095 then t0 else if 4097 + i = 4096 then b else if 4097 + i < 4300 then adK (4097 + i - 4097) else adV (4097 + i - 4300)) s
    rw [gK i hi]
    have h1 := hev i hi
    unfold tmS at h1
    rw [hq] at h1
    have h2 := List.all_eq_true.mp w_strR i (List.mem_range.mpr hi)
    rw [hq] at h2
    exact vk_R.of (hts _ (List.contains_iff_mem.mp h2)) h1
  · intro w hw
    exact va_Nw.of (w_nw w hw).2 (hts _ (w_nw w hw).1)
  · exact va_Zref (hts _ w_st.1) (hts _ w_st.2.1) ht0 (fun a ha => Nat.not_le.mpr ha)
  · exact hT0
  · exact ⟨va_Zof (hts _ w_st.2.2.1) (hts _ w_st.2.2.2.1) (va_eqt (flS_in hgv w_kind.2.2.1)) (fun a ha => Nat.not_le.mpr ha), va_Zqof (hts _ w_st.2.2.2.2.1) (hts _ w_st.2.2.2.2.2) (flS_in hgv w_kind.2.2.2) (fun a ha => Nat.not_le.mpr ha)⟩
  · refine ⟨fun i hi => ?_, fun i j hi hj e => ?_⟩
    · have h1 := hvk.1 i hi
      rw [← gK i hi, ← gV i] at h1
      exact h1
    · refine hvk.2 i j hi hj ?_
      rw [← gK i hi, ← gK j hj]
      exact e
def BF (xs : Nat → Int32) (L : Nat) : eB := fun n => if n = 0 then (L, 1) else if n < 4294967296 then (0, 0) else (e_K (ivF xs n), e_K (ivF xs n))
theorem BF_0 (xs : Nat → Int32) (L : Nat) : BF xs L 0 = (L, 1) := if_pos rfl
theorem BF_n (xs : Nat → Int32) (L : Nat) {n : Nat} (h : 4294967296 ≤ n) : BF xs L n = (e_K (ivF xs n), e_K (ivF xs n)) := by
  unfold BF
  rw [if_neg (by omega), if_neg (by omega)]
theorem BF_s (xs : Nat → Int32) {L : Nat} (hL : L ≤ 3072) : SB (BF xs L) (L : Int) := by
  refine ⟨by omega, by omega, by rw [BF_0]; rfl, by rw [BF_0], fun x hx => ?_⟩
  rw [BF_n xs L (by omega)]
  exact ⟨rfl, by have := e_K_max (ivF xs (1099511627776 + x)); show e_K (ivF xs (1099511627776 + x)) < 4294967296; omega⟩
theorem lkb_s {lo : List (Nat × eV)} {i k : Nat} (h : lkb lo i k = true) : e_lk lo i = some (.inr (.inr k)) := by
  unfold lkb at h
  split at h
  · rename_i n hn
    rw [hn, Nat.eq_of_beq_eq_true h]
  · cases h
theorem lki_s {lo : List (Nat × eV)} {i k : Nat} (h : lki lo i k = true) : e_lk lo i = some (.inl k) := by
  unfold lki at h
  split at h
  · rename_i n hn
    rw [hn, Nat.eq_of_beq_eq_true h]
  · cases h
theorem start_all : ∃ lo h, oL = some (23, lo, [], h) ∧ Ag lo [some (R 4096), some (R 0), some (R 739), some (R 769), some (I 0), none, none] ∧ V h (M0f h) ∧ INV5 (M0f h) 0 ∧ e_cn h = 770 ∧ e_sl h = 86302 := by
  have k1 := ck_start
  have k2 := ck_startB
  have k3 := ck_L
  have k5 : ∀ g : eG, oL = some g → RELW (M0f g.2.2.2) := fun g e => st5 e
  generalize oL = o at k1 k2 k3 k5
  cases o with
  | none => cases k3
  | some g =>
    obtain ⟨pc, lo, st, h⟩ := g
    have k1' : (Nat.beq pc 23 && st.isEmpty && Nat.beq (e_sz h) 770 && Nat.beq (e_cn h) 770 && Nat.beq (e_sl h) 86302 && allN 770 (ckC h)) = true := k1
    have k2' : (Nat.beq pc 23 && st.isEmpty && Nat.beq (e_sz h) 770 && Nat.beq (e_cn h) 770 && Nat.beq (e_sl h) 86302 && allN 770 (ckB h)) = true := k2
    have k3' : (lkb lo 0 4097 && lkb lo 1 1 && lkb lo 2 740 && lkb lo 3 770 && lki lo 4 0 && decide (und ((e_get h 739).2.2 13) = 0) && decide (und ((e_get h 739).2.2 21) = 0) && decide (und ((e_get h 739).2.2 27) = 0) && decide (und ((e_get h 0).2.2 1) = 0) && decide (und ((e_get h 0).2.2 9) = 0) && decide (und ((e_get h 2).2.2 1) = 0) && decide (und ((e_get h 739).2.2 1) = 0) && decide (und ((e_get h 0).2.2 11) = 0) && decide (und ((e_get h 0).2.2 5) = -1) && decide (und ((e_get h 739).2.2 29) = -1)) = true := k3
    simp only [Bool.and_eq_true, decide_eq_true_eq] at k1' k2' k3'
    obtain ⟨⟨⟨⟨⟨a1, a2⟩, a3⟩, a4⟩, a5⟩, a6⟩ := k1'
    obtain ⟨-, b6⟩ := k2'
    obtain ⟨⟨⟨⟨⟨⟨⟨⟨⟨⟨⟨⟨⟨⟨l0, l1⟩, l2⟩, l3⟩, l4⟩, z1⟩, z2⟩, z3⟩, z4⟩, w0⟩, w1⟩, w2⟩, w3⟩, w4⟩, w5⟩ := k3'
    have e1 : pc = 23 := Nat.eq_of_beq_eq_true a1
    have e2 : st = [] := List.isEmpty_iff.mp a2
    subst e1
    subst e2
    have e3 := Nat.eq_of_beq_eq_true a3
    have e4 := Nat.eq_of_beq_eq_true a4
    have e5 := Nat.eq_of_beq_eq_true a5
    have mf : ∀ a i : Nat, M0f h (a : Int) (i : Int) = und ((e_get h a).2.2 i) := fun a i => by
      unfold M0f
      rw [if_neg (by omega), Int.toNat_natCast, Int.toNat_natCast]
    have m13 : M0f h 739 13 = 0 := (mf 739 13).trans z1
    have m21 : M0f h 739 21 = 0 := (mf 739 21).trans z2
    have m27 : M0f h 739 27 = 0 := (mf 739 27).trans z3
    have m01 : M0f h 0 1 = 0 := (mf 0 1).trans z4
    have n0 : M0f h 0 9 = 0 := (mf 0 9).trans w0
    have n1 : M0f h 2 1 = 0 := (mf 2 1).trans w1
    have n2 : M0f h 739 1 = 0 := (mf 739 1).trans w2
    have n3 : M0f h 0 11 = 0 := (mf 0 11).trans w3
    have n4 : M0f h 0 5 = -1 := (mf 0 5).trans w4
    have n5 : M0f h 739 29 = -1 := (mf 739 29).trans w5
    have mg : M0f h (-1) 0 = 0 := rfl
    refine ⟨lo, h, rfl, ?_, V_start e3 e4 e5 (allN_s _ a6), ⟨⟨⟨Pw_start (allN_s _ b6), by rw [m01, m27], WS_0 m13, QW_0 m21, by rw [mg]; decide, by rw [mg]; decide⟩, by rw [m01]; intro k a b; exfalso; omega, by rw [n0, m13], by rw [n1, n2], by rw [n4, n5], by rw [n3, m21]⟩, k5 (23, lo, [], h) rfl⟩, e4, e5⟩
    intro i v hi
    match i, hi with
    | 0, hi => cases hi; exact lkb_s l0
    | 1, hi => cases hi; exact lkb_s l1
    | 2, hi => cases hi; exact lkb_s l2
    | 3, hi => cases hi; exact lkb_s l3
    | 4, hi => cases hi; exact lki_s l4
    | 5, hi => cases hi
    | 6, hi => cases hi
    | i + 7, hi => cases hi
theorem ev_ok {B : eB} {l : Launch} {G : GT} (hG : e_GOK G B) (htr : l.stackTraces = false) : ∀ d, e_EOK l G d (e_eval opT pgs ml B d) := e_eval_ok hG htr pk_ok pk_pl (pk_ws pk_f1) (pk_ws pk_f2) (pk_ws pk_f3) (j_hps hG)
theorem ev_okC {B : eB} {l : Launch} {G : GT} (hG : e_GOK G B) (htr : l.stackTraces = false) : ∀ d, e_EOK l G d (e_evC opT pgs ml B d) := e_evC_ok hG htr pk_ok pk_pl (pk_ws pk_f1) (pk_ws pk_f2) (pk_ws pk_f3) (j_hps hG)
def R_law : String := "IslandHallLaw"
def lw_P (b : Addr) (xs : List Int32) (args : Array Value) (s : State) : Prop := args = #[.ref b] ∧ s.IntsAt b xs ∧ xs.length ≤ 3072 ∧ (Jvm.Cond.and given_1 narrow_1).before args s = true
def lw_Q (_ : Array Value) (s : State) (o : Outcome) (t : State) : Prop := o = .returned (some (.int 1)) ∧ Framed s o t [] 601024 7293034
def lw_Z (below : List Frame) (a : Array Value) (s : State) : State → Prop := fun t => ∃ o, t.status = .running ∧ Ended t below o ∧ lw_Q a s o t
/-- the law's own end, with 1 on the stack, nothing written that was there before, its room as the claim has it -/
theorem lw_ret {p : Program} {l : Launch} {e : Env} {s : State} {m : MethodId} {below : List Frame} {meth : Method} {c : Code} {b : Nat} (hx : p.tables.exec = Jvm.exec) (hb : c.code = code) (hr : meth.sig.returnType = ret) (hlocks : meth.locks = false) {pc : Nat} {H : Heap} {ls : Array Slot} (hdg : decode code pc = .ok (.ireturn, 1)) : W p l e room_1 s m #[Value.ref b] below meth c H [] 601024 7293034 (lw_Z below #[Value.ref b] s) (F0 m pc ls [.int 1]) := by
  intro T hT X
  obtain ⟨fs, hret, hrun, hended, hW, hframe⟩ := X.leave (v := some (.int 1)) (hlocks := hlocks) (fun h => by rw [hr] at h; cases h)
  have hmeth' : T.vm.method? m = some meth := X.method'
  refine ⟨T.setFrames fs, ?_, .returned (some (.int 1)), hrun, hended, rfl, ⟨_, rfl⟩, hW, hframe⟩
  jvm_step X.here [X.here.top, hx, hb, hdg, hmeth', hr, ret, narrow_b1]
  (try refine ⟨rfl, ?_⟩); (try refine ⟨rfl, ?_⟩)
  first | (intro acts; rw [hret _ acts rfl rfl rfl]) | rw [hret _ _ rfl rfl rfl]
  exact Steps.refl _
def lw_At (p : Program) (s : State) (m : MethodId) (meth : Method) (c : Code) (b L : Nat) (xs : Nat → Int32) : Prop :=
  p.tables.exec = Jvm.exec ∧ c.code = code ∧ meth.sig.returnType = ret ∧ c.maxLocals = 7 ∧ s.vm.findClass R_law = some m.cls ∧ (∀ w ∈ lw_tbl, w.before #[Value.ref b] s = true) ∧ va_X b L xs s s.heap ∧ b < s.heap.size ∧ meth.locks = false ∧ (Jvm.Cond.and given_1 narrow_1).before #[Value.ref b] s = true
set_option maxHeartbeats 1000000 in
/-- from the entry, for every script of at most 3072 ints, the law comes to its end with true -/
theorem whole_start {p : Program} {e : Env} {s : State} {m : MethodId} {below : List Frame} {meth : Method} {c : Code} (l : Launch) {b L : Nat} {xs : Nat → Int32} (htr : l.stackTraces = false) (htab : c.exceptionTable.toList = []) (hL : L ≤ 3072) (C0 : lw_At p s m meth c b L xs) : W p l e room_1 s m #[Value.ref b] below meth c s.heap [] 0 0 (lw_Z below #[Value.ref b] s) (entryFrame m ([Value.ref b] : List Value).toArray 7) := by
  obtain ⟨hx, hb, hr, hml, hown, hts, hX, hbl, hlocks, hgv⟩ := C0
  obtain ⟨G, g1, g2, g3, g4, g5, hEX⟩ := e_start (b := b) (xs := xs) hts hgv
  obtain ⟨lo, h, eoL, hAg, hV, hI, ecn0, esl0⟩ := start_all
  obtain ⟨n, o, M2, erun, hV2, hQ2⟩ := law5_loop (B := BF xs L) (n := (L : Int)) (BF_s xs hL) 0 (Q := fun k v M => k = 1 ∧ v = I 1 ∧ 0 ≤ M (-1) 0 ∧ M (-1) 0 ≤ 512) (fun M h1 h2 => ⟨rfl, rfl, h2, by omega⟩) _ 0 (M0f h) rfl (Int.le_refl _) (by omega) hI h lo hV hAg
  obtain ⟨tag, v, h2⟩ := o
  obtain ⟨q1, q2, q3, q4⟩ := hQ2
  have q1' : tag = 1 := q1
  have q2' : v = .inl 1 := q2
  subst q1'
  subst q2'
  obtain ⟨-, -, ecn2, esl2, -⟩ := hV2
  have ecn : e_cn h2 ≤ 601024 := by
    have : e_cn h2 = 770 + (M2 (-1) 0).toNat := ecn2
    omega
  have esl : e_sl h2 ≤ 7293034 := by
    have : e_sl h2 = 86302 + 6 * (M2 (-1) 0).toNat := esl2
    omega
  have hok : ∀ B9 : eB, (∀ n, 4294967296 ≤ n → (B9 n).1 ≤ e_K (giv G n) ∧ e_K (giv G n) ≤ (B9 n).2) → e_GOK G B9 := fun B9 h1 => ⟨g5, fun n hn => by rw [g4]; exact ivF_1 hn, h1, by rw [g1, g2], trivial⟩
  have hG : e_GOK G (BF xs L) := hok _ (fun n hn => by rw [BF_n xs L hn, g4]; exact ⟨Nat.le_refl _, Nat.le_refl _⟩)
  have hG0 : e_GOK G B0 := by
    refine hok B0 (fun n hn => ?_)
    have : B0 n = (0, 4294967295) := by
      unfold B0
      rw [show Nat.ble n 1 = false from by rw [Bool.eq_false_iff]; intro q; have := Nat.le_of_ble_eq_true q; omega]
      rfl
    rw [this]
    exact ⟨Nat.zero_le _, e_K_max _⟩
  have hN : ∀ (B9 : eB) (d9 : Nat), d9 ≤ 80 → e_GOK G B9 → ((B9 0).2 = 1 → (B9 0).1 = L) → e_N G B9 (p, l, e, room_1, s, m, #[Value.ref b], below, meth, c, lw_Z below #[Value.ref b] s, 0, 0) 0 d9 (1, .inl 1, h2) := by
    intro B9 d9 hd9 h1 h9
    refine ⟨hx, hb, hml.trans m0_ml, hown, fun w hw => hts w (GW_tbl hw), hEX, h1, hlocks, fun q => absurd q (by decide +kernel), ⟨Nat.le_of_eq g1, by rw [g1]; exact Nat.le_refl _, fun q hq => by rw [g2]⟩, ⟨ecn, esl⟩, ⟨by show d9 + 11 ≤ 2048; omega, by show 60 * (d9 + 1) + 200 ≤ 84000; omega⟩, htr, htab, fun _ q => ?_⟩
    refine ⟨by rw [g3, g1]; exact hbl, xs, ?_, fun j _ => by rw [g4]; exact ivF_2 j⟩
    rw [g3, g2, h9 q]
    exact hX
  have hEnd : e_End G (p, l, e, room_1, s, m, #[Value.ref b], below, meth, c, lw_Z below #[Value.ref b] s, 0, 0) 0 (1, .inl 1, h2) := by
    refine ⟨?_, ?_, ?_, ?_, ?_⟩
    · intro pc n H ls locs cells slots _ h4 _ hd hH hc hs
      cases h4
      have e1 : giv G 1 = 1 := hG.2.1 1 (by decide)
      rw [e1]
      refine va_forget (fun q hq => by have h7 := hH.2.2.2.2 q hq; have h8 : gb G ≤ q.base := h7; omega) ?_
      refine W.widen (k := 601024) (n := 7293034) (by have : cells + 0 = e_cn h2 := hc; omega) (by have : slots + 0 = e_sl h2 := hs; omega) ?_
      exact lw_ret hx hb hr hlocks hd
    · intro pc n H ls locs cells slots _ h4
      cases h4
    · intro pc n H ls locs cells slots _ h4
      cases h4
    · intro pc H ls locs cells slots h4
      cases h4
    · intro h4
      exact absurd h4 (by show ¬ 2 ≤ 1; decide)
  have hrun := e_run_ok (pk_ok 0 (by decide)) (hN (BF xs L) 80 (Nat.le_refl _) hG (fun _ => by rw [BF_0])) (ev_okC hG htr 80) hEnd n _ erun
  have hm := e_run_mono n _ _ erun
  have hto := e_to_ok (pk_ok 0 (by decide)) (hN B0 10 (by decide) hG0 (fun q => by cases q)) (ev_ok hG0 htr 10) hEnd hm.1 hm.2 hrun 13 g0 eoL
  rw [lg_entry_eq]
  have hl := lv_entry ([Value.ref b]) (n := 7) (Nat.le_of_ble_eq_true rfl)
  refine hto s.heap _ [] 0 0 ⟨(fun k q hq => by rw [List.getElem?_eq_none (by rw [cW_len]; exact Nat.zero_le _)] at hq; cases hq), by decide, va_S.rf⟩ ?_ rfl rfl
  rw [← m0_ml]
  have e9 : cLo G [(0, (.inr (.inr 4097) : eV))] = lv_args 0 [Value.ref b] := by
    show [(0, Value.ref (gad G 4096))] = [(0, Value.ref b)]
    rw [g3]
  show lv_has _ 7 (cLo G [(0, (.inr (.inr 4097) : eV))])
  rw [e9]
  exact hl
set_option maxHeartbeats 4000000 in
theorem lw_walk (l : Launch) (htr : l.stackTraces = false) (b : Addr) (xs : List Int32) : MetFree l x (headSpec (Jvm.Cond.code x code maxLocals ret :: tables_1) room_1) (lw_P b xs) (fun _ _ _ _ _ => True) lw_Q := by
  refine MetFree.of_bodyS (code := code) (maxLocals := maxLocals) (ret := ret) (by decide) ?_ ?_
  · intro args s m h hn
    obtain ⟨meth, c, h1, h2, h3, h4, h5, h6, -, -⟩ := Cond.code_spec hn (atoms_spec (ws := Jvm.Cond.code x code maxLocals ret :: tables_1) h _ List.mem_cons_self)
    exact ⟨meth, c, h1, h2, h3, h4, h5, h6⟩
  · intro p e s m args below meth c s₁ B hml0 hP _
    obtain ⟨rfl, hx, hbd, hgv⟩ := hP
    obtain ⟨scr, harrAt, hlist, hof, hsmall⟩ := hx
    obtain ⟨hcb, hkn, -, -⟩ := State.arrayAt?_spec harrAt
    have hown : s.vm.findClass R_law = some m.cls := findClass_of_methodNamed B.named
    have hts0 : ∀ c ∈ (Jvm.Cond.code x code maxLocals ret :: tables_1), c.before #[Value.ref b] s = true := atoms_spec (ws := Jvm.Cond.code x code maxLocals ret :: tables_1) B.pre
    have hts : ∀ w ∈ lw_tbl, w.before #[Value.ref b] s = true := k2_hts_sels lw_privs (fun w hw => hts0 w (List.mem_cons_of_mem _ hw)) lw_privs_ok
    have hml : c.maxLocals = 7 := B.maxLocals_eq (hts0 _ List.mem_cons_self)
    have htab : c.exceptionTable.toList = [] := by
      obtain ⟨meth9, c9, h1, h2, -, -, -, -, h7, -⟩ := Cond.code_spec B.named (hts0 _ List.mem_cons_self)
      cases Option.some.inj (h1.symm.trans B.method)
      cases Option.some.inj (h2.symm.trans (Stand.of_body B).code)
      rw [Array.isEmpty_iff.mp h7]
    have X₀ : Stand p l e room_1 s m #[Value.ref b] below meth c s₁ [] 0 0 := Stand.of_body B
    have hh0 : s₁.heap = s.heap := by rw [B.state]; rfl
    have hsz : scr.slots.size = xs.length := by rw [← Array.length_toList, hlist, List.length_map]
    have hval : ∀ j : Nat, j < xs.length → scr.slots[j]? = some (.int (xs.getD j 0)) := fun j hj => by
      rw [← Array.getElem?_toList, hlist]
      simp [hj]
    have hbl : b < s.heap.size := (Array.getElem?_eq_some_iff.mp hcb).1
    have hX : va_X b xs.length (fun j => xs.getD j 0) s s.heap := ⟨scr, hcb, hof, hkn, hsz, hval⟩
    have K : W p l e room_1 s m #[Value.ref b] below meth c s₁.heap [] 0 0 (lw_Z below #[Value.ref b] s) (entryFrame m ([Value.ref b] : List Value).toArray 7) := by
      rw [hh0]
      exact whole_start l htr htab hbd ⟨B.exec, B.bytes, B.returns, hml, hown, hts, hX, hbl, B.notSynchronized, hgv⟩
    obtain ⟨t, a1, o, b1, b2, b3⟩ := K s₁ rfl X₀
    exact ⟨t, o, a1, b1, b2, b3⟩
theorem lw_pre_spec {args : Array Value} {s : State} (h : (Jvm.Cond.and given_1 narrow_1).before args s = true) (hr : rest_1_c.before args s = true) : ∃ (b : Addr) (xs : List Int32), lw_P b xs args s := by
  have hs := flat_of_before _ h
  have hq := flat_of_before _ hr
  have hc : (Cond.count 1).before args s = true := hs _ (by decide +kernel)
  have harr : (Cond.arrayOf (.arg 0) .int).before args s = true := hs _ (by decide +kernel)
  have hle : (Cond.le (.length (.arg 0)) (.int 3072)).before args s = true := hs _ (by decide +kernel)
  have hlen : (Cond.isInt (.length (.arg 0))).before args s = true := hq _ (by decide +kernel)
  have hall : (Cond.all (.arg 0) (.isInt (.elem (.arg 0) (.index 0)))).before args s = true := hq _ (by decide +kernel)
  obtain ⟨b, xs, hb, hx⟩ := State.ints_of_pre rfl harr hlen hall
  have hsm : xs.length < 2 ^ 31 := hx.choose_spec.2.2.2
  have hev : (Term.length (.arg 0)).eval args s none [] s = some (.int xs.length.toInt32) := hx.length_eval hb
  have hv := Cond.le_ints hev (show (Term.int 3072).eval args s none [] s = some (.int 3072) from rfl)
  have hd : xs.length.toInt32 ≤ 3072 := by
    simpa [Cond.before, Cond.holds, hv] using hle
  have hN : xs.length ≤ 3072 := (Int32.ofNat_le_ofNat hsm (by decide)).mp (show Int32.ofNat xs.length ≤ Int32.ofNat 3072 from hd)
  exact ⟨b, xs, Cond.one_arg hc (show args[0]? = some (.ref b) from hb), hx, hN, h⟩
theorem lw_comes (l : Launch) (htr : l.stackTraces = false) : Comes l x (Jvm.Cond.code x code maxLocals ret :: tables_1) room_1 (fun tb e args s => Calls_1 tb e args s ∧ rest_1 tb e args s ∧ Pre_1 tb e args s)
    (fun _ _ args s o t => lw_Q args s o t) := by
  intro p e ha hc hk s m args below hf hfit hheap happ hpre
  obtain ⟨b, xs, hP⟩ := lw_pre_spec hpre.2.2 hpre.2.1
  obtain ⟨k, o, h1, h2, h3, hQ⟩ := lw_walk l htr b xs p e ha hc hk s m args below hf ((Spec.applies_iff_loose hf).mp happ).1 hP trivial
  exact ⟨k, o, h1, h2, h3, hQ⟩
theorem lw_flags {l : Launch} (h : l.flags = flags0) : l.stackTraces = false := by
  unfold Launch.stackTraces
  rw [h]
  decide +kernel
theorem lw_frame {s t : State} {o : Outcome} {args : Array Value} (h : Framed s o t [] 601024 7293034) :
    Framed s o t (fieldLocs frame_1_writes args s ++ arrayLocs frame_1_arrays args s ++ staticLocs frame_1_statics s) 601024 7293034 := h
theorem lw_limb (L : Cond) (hL : ∀ (args : Array Value) (s t : State), L.after args s (.returned (some (.int 1))) t = true) :
    ArmFor flags0 classFile x code maxLocals ret World_1 tables_1 room_1 Calls_1 rest_1 Pre_1
      (fun tb e a s o t => postC L tb e a s o t ∧ Framed s o t (fieldLocs frame_1_writes a s ++ arrayLocs frame_1_arrays a s ++ staticLocs frame_1_statics s) 601024 7293034) := by
  intro l hfl _ _ p e ha hc hk s m args below hf hfit hheap happ hpre
  obtain ⟨k, o, h1, h2, h3, rfl, hF⟩ := lw_comes l (lw_flags hfl) p e ha hc hk s m args below hf hfit hheap happ hpre
  exact ⟨k, _, h1, h2, h3, hL args s _, lw_frame hF⟩
