/-! ===== from the law's entry ===== -/
theorem e_exact {t : Term} {cls : String} {args : Array Value} {s : State} (h : (Cond.exactly t cls).before args s = true) : ∃ a, t.eval args s none [] s = some (.ref a) := by
  simp only [Cond.before, Cond.holds, Cond.value] at h
  cases ht : t.eval args s none [] s with
  | none => simp [ht] at h
  | some v =>
    cases v with
    | ref a => exact ⟨a, rfl⟩
    | _ => cases hf : s.vm.findClass cls <;> simp [ht, hf] at h
theorem e_arr {ty : FieldType} {args : Array Value} {s : State} (h : (Cond.arrayClass ty).before args s = true) : ∃ cA, ArrOfT s cA ty ∧ s.vm.findClass ("[" ++ ty.toString) = some cA := by
  obtain ⟨c, k, comp, h1, h2, h3⟩ := Cond.arrayClass_spec h
  exact ⟨c, fun N z => ⟨(fun k h => by cases h), k, h2, comp, h3⟩, h1⟩
theorem e_arrO {C : String} {s : State} (h : va_AO C s) : ∃ cA, ArrOfT s cA (.object C) ∧ va_RA s cA (.object C) := by
  obtain ⟨comp, c, k, h1, -, h3, h4, h5⟩ := Cond.arrayOver_spec h
  exact ⟨c, fun N z => ⟨(fun k h => by cases h), k, h3, comp, h4⟩, k, comp, h3, h4, h1, h5⟩
theorem e_arrA {s : State} (h : va_AOA .long s) : ∃ cA, ArrOfT s cA (.array .long) ∧ va_RA s cA (.array .long) := by
  have h : (Cond.arrayOver (.array .long)).before #[] s = true := h
  simp only [Cond.before, Cond.holds, Cond.value, beq_iff_eq] at h
  cases hc : s.vm.findClass (FieldType.array .long).toString with
  | none => simp [hc] at h
  | some comp =>
    simp only [hc, Option.bind_some, Option.bind_eq_some_iff, Option.map_eq_some_iff] at h
    obtain ⟨c, hi, k, hk, hb⟩ := h
    cases hkind : k.kind with
    | array component ty =>
      rw [hkind] at hb
      simp at hb
      exact ⟨c, fun N z => ⟨(fun k h => by cases h), k, hk, component, by rw [hkind, hb.1]⟩, hb.2⟩
    | _ => rw [hkind] at hb; simp at hb
/-- the numbers: plain, the script's, and what is made of these -/
def ivF (xs : Nat → Int32) (n : Nat) : Int32 :=
  if n < 4294967296 then nI n else if n < 4294967304 then xs (n - 4294967296)
  else if n < 4294967560 then xs ((n - 4294967304) / 32) >>> (nI ((n - 4294967304) % 32) &&& 31)
  else if n < 4294967816 then (xs ((n - 256 - 4294967304) / 32) >>> (nI ((n - 256 - 4294967304) % 32) &&& 31)) &&& 255
  else (xs ((n - 512 - 4294967304) / 32) >>> (nI ((n - 512 - 4294967304) % 32) &&& 31)).toInt8.toInt32
theorem ivF_1 {xs : Nat → Int32} {n : Nat} (h : n < 4294967296) : ivF xs n = nI n := if_pos h
theorem ivF_2 {xs : Nat → Int32} {j : Nat} (h : j < 8) : ivF xs (4294967296 + j) = xs j := by
  unfold ivF
  rw [if_neg (by omega), if_pos (by omega), Nat.add_sub_cancel_left]
theorem ivF_3 {xs : Nat → Int32} {x : Nat} (h1 : 4294967304 ≤ x) (h2 : x ≤ 4294967559) : ivF xs x = xs ((x - 4294967304) / 32) >>> (nI ((x - 4294967304) % 32) &&& 31) := by
  unfold ivF
  rw [if_neg (by omega), if_neg (by omega), if_pos (by omega)]
theorem ivF_4 {xs : Nat → Int32} {x : Nat} (h1 : 4294967304 ≤ x) (h2 : x ≤ 4294967559) : ivF xs (x + 256) = ivF xs x &&& 255 := by
  rw [ivF_3 h1 h2]
  unfold ivF
  rw [if_neg (by omega), if_neg (by omega), if_neg (by omega), if_pos (by omega), Nat.add_sub_cancel]
theorem ivF_5 {xs : Nat → Int32} {x : Nat} (h1 : 4294967304 ≤ x) (h2 : x ≤ 4294967559) : ivF xs (x + 512) = (ivF xs x).toInt8.toInt32 := by
  rw [ivF_3 h1 h2]
  unfold ivF
  rw [if_neg (by omega), if_neg (by omega), if_neg (by omega), if_neg (by omega), Nat.add_sub_cancel]
theorem ivF_6 {xs : Nat → Int32} {j y : Nat} (hj : j < 8) (hy : y < 32) : ivF xs (4294967304 + 32 * j + y) = ivF xs (4294967296 + j) >>> (nI y &&& 31) := by
  rw [ivF_2 hj, ivF_3 (by omega) (by omega), show (4294967304 + 32 * j + y - 4294967304) / 32 = j by omega, show (4294967304 + 32 * j + y - 4294967304) % 32 = y by omega]
theorem e_K_max (x : Int32) : e_K x ≤ 4294967295 := by
  have h1 := Int32.le_toInt x
  have h2 := Int32.toInt_lt x
  unfold e_K
  omega
theorem e_and31 (x : Int32) : ∃ k, k < 32 ∧ x &&& 31 = nI k := by
  refine ⟨(x &&& 31).toBitVec.toNat, ?_, ?_⟩
  · rw [Int32.toBitVec_and, BitVec.toNat_and]
    exact Nat.lt_of_le_of_lt Nat.and_le_right (by decide)
  · apply Int32.toBitVec_inj.mp
    rw [n32_bv]
    simp
theorem w_strs : ∀ q ∈ e_strs, Cond.stringRef q.1 q.2.1 q.2.2 ∈ lw_tbl ∧ Cond.exactly (.string q.1 q.2.1) "java/lang/String" ∈ flatC (Jvm.Cond.and given_1 narrow_1) := by decide +kernel
theorem w_nw : ∀ w ∈ e_nw, w ∈ lw_tbl ∧ w.onTables = true := by decide +kernel
theorem w_over : Cond.arrayOver (.object "IslandHall$Code") ∈ lw_tbl ∧ Cond.arrayOver (.array .long) ∈ lw_tbl := by decide +kernel
theorem w_lays : Cond.laysStatic Bundle.tN "UNASSIGNED_STACK" Bundle.steD ∈ lw_tbl ∧ Cond.laysStatic Bundle.tN "SUPPRESSED_SENTINEL" Bundle.listD ∈ lw_tbl ∧ Cond.initialized Bundle.tN ∈ lw_tbl := by decide +kernel
theorem w_isr : Cond.isRef (.static Bundle.tN "UNASSIGNED_STACK" Bundle.steD) ∈ flatC (Jvm.Cond.and given_1 narrow_1) ∧ Cond.isRef (.static Bundle.tN "SUPPRESSED_SENTINEL" Bundle.listD) ∈ flatC (Jvm.Cond.and given_1 narrow_1) := by decide +kernel
theorem GW_tbl {w : Cond} (h : w ∈ GW) : w ∈ lw_tbl := (List.mem_filter.mp h).1
theorem e_start {A : Array Value} {s : State} {b : Nat} {xs : Nat → Int32} (hts : ∀ w ∈ lw_tbl, w.before A s = true) (hgv : (Jvm.Cond.and given_1 narrow_1).before A s = true) : ∃ G : GT, gb G = s.heap.size ∧ gH G = s.heap ∧ gad G 4096 = b ∧ giv G = ivF xs ∧ (∀ k, k < 2048 → gad G k = gb G + k) ∧ e_X G s := by
  have hG : ∀ w ∈ GW, w.before A s = true := fun w hw => hts w (GW_tbl hw)
  have hfl := flat_of_before _ hgv
  have h13 : ∀ a : Nat, ∃ q : ClassId × (Nat → Nat), ∀ z : vw_C, vwCl[a]? = some z → u_Kn s z.1 z.2.1 z.2.2 q.1 q.2 := by
    intro a
    cases ha : vwCl[a]? with
    | none => exact ⟨(0, fun _ => 0), fun z hz => by cases hz⟩
    | some z =>
      obtain ⟨C, T, N⟩ := z
      obtain ⟨cC, iS, h⟩ := u_known (C := C) (T := T) (N := N) (n := N) hG (q_cls ha) (hG _ (q_in ha).1)
      exact ⟨(cC, iS), fun z hz => by cases hz; exact h⟩
  obtain ⟨D, hD⟩ := Classical.axiomOfChoice h13
  have hst : ∀ i : Nat, ∃ a : Nat, ∀ q : String × Nat × String, e_strs[i]? = some q → vk_R q.1 q.2.1 q.2.2 a s := by
    intro i
    cases hi : e_strs[i]? with
    | none => exact ⟨0, fun z hz => by cases hz⟩
    | some q =>
      obtain ⟨h1, h2⟩ := w_strs q (List.mem_of_getElem? hi)
      obtain ⟨a, ha⟩ := e_exact (hfl _ h2)
      exact ⟨a, fun z hz => by cases hz; exact vk_R.of (hts _ h1) ha⟩
  obtain ⟨ad, had⟩ := Classical.axiomOfChoice hst
  have hAO : va_AO "IslandHall$Code" s := va_AO.of (hts _ w_over.1)
  have hAA : va_AOA .long s := hts _ w_over.2
  obtain ⟨c0, i1, i2⟩ := e_arr (hG _ q_arr.1)
  obtain ⟨c1, i3, i4⟩ := e_arr (hG _ q_arr.2.1)
  obtain ⟨c2, i5, i6⟩ := e_arr (hG _ q_arr.2.2)
  obtain ⟨c3, i7, i8⟩ := e_arrO hAO
  obtain ⟨c4, i9, i10⟩ := e_arrA hAA
  refine ⟨((fun a => (D a).1, fun a => (D a).2), (fun n => if n = 100 then c0 else if n = 101 then c1 else if n = 102 then c2 else if n = 103 then c3 else c4), s.heap.size, (fun k => if k < 2048 then s.heap.size + k else if k = 4096 then b else ad (k - 4097)), ivF xs, s.heap), rfl, rfl, rfl, rfl, fun k hk => if_pos hk, ?_⟩
  refine ⟨⟨fun c q hq => hD c q hq, ?_⟩, hAO, hAA, ?_, ?_, ?_, ?_⟩
  · intro k q hq
    match k, hq with
    | 0, hq => cases hq; exact ⟨i1, i2⟩
    | 1, hq => cases hq; exact ⟨i3, i4⟩
    | 2, hq => cases hq; exact ⟨i5, i6⟩
    | 3, hq => cases hq; exact ⟨i7, i8⟩
    | 4, hq => cases hq; exact ⟨i9, i10⟩
    | k + 5, hq => simp at hq
  · exact vx_Zqof (hts _ w_lays.1) (hts _ w_lays.2.2) (hfl _ w_isr.1) (fun a ha => Nat.not_le.mpr ha)
  · exact vx_Zqof (hts _ w_lays.2.1) (hts _ w_lays.2.2) (hfl _ w_isr.2) (fun a ha => Nat.not_le.mpr ha)
  · intro i q hq
    have h := had i q hq
    show vk_R q.1 q.2.1 q.2.2 (if 4097 + i < 2048 then s.heap.size + (4097 + i) else if 4097 + i = 4096 then b else ad (4097 + i - 4097)) s
    rw [if_neg (by omega), if_neg (by omega), Nat.add_sub_cancel_left]
    exact h
  · intro w hw
    exact va_Nw.of (w_nw w hw).2 (hts _ (w_nw w hw).1)
def R_law : String := "IslandHallLaw"
def lw_P (b : Addr) (xs : List Int32) (args : Array Value) (s : State) : Prop := args = #[.ref b] ∧ s.IntsAt b xs ∧ xs.length ≤ 6 ∧ (Jvm.Cond.and given_1 narrow_1).before args s = true
def lw_Q (_ : Array Value) (s : State) (o : Outcome) (t : State) : Prop := o = .returned (some (.int 1)) ∧ Framed s o t [] 600002 7302232
def lw_Z (below : List Frame) (a : Array Value) (s : State) : State → Prop := fun t => ∃ o, t.status = .running ∧ Ended t below o ∧ lw_Q a s o t
/-- the law's own end, with 1 on the stack, nothing written that was there before, its room as the claim has it -/
theorem lw_ret {p : Program} {l : Launch} {e : Env} {s : State} {m : MethodId} {below : List Frame} {meth : Method} {c : Code} {b : Nat} (hx : p.tables.exec = Jvm.exec) (hb : c.code = code) (hr : meth.sig.returnType = ret) (hlocks : meth.locks = false) {pc : Nat} {H : Heap} {ls : Array Slot} (hdg : decode code pc = .ok (.ireturn, 1)) : W p l e room_1 s m #[Value.ref b] below meth c H [] 600002 7302232 (lw_Z below #[Value.ref b] s) (F0 m pc ls [.int 1]) := by
  intro T hT X
  obtain ⟨fs, hret, hrun, hended, hW, hframe⟩ := X.leave (v := some (.int 1)) (hlocks := hlocks) (fun h => by rw [hr] at h; cases h)
  have hmeth' : T.vm.method? m = some meth := X.method'
  refine ⟨T.setFrames fs, ?_, .returned (some (.int 1)), hrun, hended, rfl, ⟨_, rfl⟩, hW, hframe⟩
  jvm_step X.here [X.here.top, hx, hb, hdg, hmeth', hr, ret, narrow_b1]
  (try refine ⟨rfl, ?_⟩); (try refine ⟨rfl, ?_⟩)
  first | (intro acts; rw [hret _ acts rfl rfl rfl]) | rw [hret _ _ rfl rfl rfl]
  exact Steps.refl _
def lw_At (p : Program) (s : State) (m : MethodId) (meth : Method) (c : Code) (b L : Nat) (xs : Nat → Int32) : Prop :=
  p.tables.exec = Jvm.exec ∧ c.code = code ∧ meth.sig.returnType = ret ∧ c.maxLocals = 7 ∧ s.vm.findClass R_law = some m.cls ∧ (∀ w ∈ lw_tbl, w.before #[Value.ref b] s = true) ∧ va_X b L xs s s.heap ∧ b < s.heap.size ∧ meth.locks = false ∧ (Jvm.Cond.and given_1 narrow_1).before #[Value.ref b] s = true
theorem m0_ml : 7 = ml 0 := by decide +kernel
set_option maxHeartbeats 1000000 in
/-- from the entry, for every script of at most 6 ints, the law comes to its end with true -/
theorem whole_start {p : Program} {e : Env} {s : State} {m : MethodId} {below : List Frame} {meth : Method} {c : Code} (l : Launch) {b L : Nat} {xs : Nat → Int32} (htr : l.stackTraces = false) (htab : c.exceptionTable.toList = []) (hL : L ≤ 6) (C0 : lw_At p s m meth c b L xs) : W p l e room_1 s m #[Value.ref b] below meth c s.heap [] 0 0 (lw_Z below #[Value.ref b] s) (entryFrame m ([Value.ref b] : List Value).toArray 7) := by
  obtain ⟨hx, hb, hr, hml, hown, hts, hX, hbl, hlocks, hgv⟩ := C0
  obtain ⟨G, g1, g2, g3, g4, g5, hEX⟩ := e_start (b := b) (xs := xs) hts hgv
  obtain ⟨k, hk, hk2⟩ := e_and31 (xs 0)
  obtain ⟨B, g, h2, eoL, erun, ecn, esl, eB0, eB1, eBn⟩ := ev_all L hL k (e_K (xs 1)) (e_K (xs 2)) hk (e_K_max _) (e_K_max _)
  have hiv : ∀ j, j < 8 → giv G (4294967296 + j) = xs j := fun j hj => by rw [g4]; exact ivF_2 hj
  have hok : ∀ B9 : eB, (∀ n, 4294967296 ≤ n → (B9 n).1 ≤ e_K (giv G n) ∧ e_K (giv G n) ≤ (B9 n).2) → ((B9 1).2 = 1 → (B9 1).1 = k) → e_GOK G B9 := by
    intro B9 h1 h9
    refine ⟨g5, fun n hn => by rw [g4]; exact ivF_1 hn, h1, by rw [g1, g2], fun j y hj hy => by rw [g4]; exact ivF_6 hj hy, fun x a1 a2 => by rw [g4]; exact ivF_4 a1 a2, fun x a1 a2 => by rw [g4]; exact ivF_5 a1 a2, fun q => ?_⟩
    rw [h9 q]
    refine ⟨?_, by omega⟩
    rw [show (4294967296 : Nat) = 4294967296 + 0 from rfl, hiv 0 (by decide)]
    exact hk2
  have hG : e_GOK G B := by
    refine hok B (fun n hn => ?_) eB1
    rcases eBn n hn with ⟨rfl, h3, h4⟩ | ⟨rfl, h3, h4⟩ | h3
    · rw [show (4294967297 : Nat) = 4294967296 + 1 from rfl, hiv 1 (by decide)]
      exact ⟨h3, h4⟩
    · rw [show (4294967298 : Nat) = 4294967296 + 2 from rfl, hiv 2 (by decide)]
      exact ⟨h3, h4⟩
    · rw [h3]
      exact ⟨Nat.zero_le _, e_K_max _⟩
  have hG0 : e_GOK G B0 := by
    refine hok B0 (fun n hn => ?_) (fun q => by cases q)
    have : B0 n = (0, 4294967295) := by
      unfold B0
      rw [show Nat.ble n 1 = false from by rw [Bool.eq_false_iff]; intro q; have := Nat.le_of_ble_eq_true q; omega]
      rfl
    rw [this]
    exact ⟨Nat.zero_le _, e_K_max _⟩
  have hN : ∀ B9 : eB, e_GOK G B9 → ((B9 0).2 = 1 → (B9 0).1 = L) → e_N G B9 (p, l, e, room_1, s, m, #[Value.ref b], below, meth, c, lw_Z below #[Value.ref b] s, 0, 0) 0 10 (1, .inl 1, h2) := by
    intro B9 h1 h9
    refine ⟨hx, hb, hml.trans m0_ml, hown, fun w hw => hts w (GW_tbl hw), hEX, h1, hlocks, fun q => absurd q (by decide +kernel), ⟨Nat.le_of_eq g1, by rw [g1]; exact Nat.le_refl _, fun q hq => by rw [g2]⟩, ⟨ecn, esl⟩, ⟨by decide, by decide⟩, htr, htab, fun _ q => ?_⟩
    refine ⟨by rw [g3, g1]; exact hbl, xs, ?_, hiv⟩
    rw [g3, g2, h9 q]
    exact hX
  have hEnd : e_End G (p, l, e, room_1, s, m, #[Value.ref b], below, meth, c, lw_Z below #[Value.ref b] s, 0, 0) 0 (1, .inl 1, h2) := by
    refine ⟨?_, ?_, ?_, ?_, ?_⟩
    · intro pc n H ls locs cells slots _ h4 _ hd hH hc hs
      cases h4
      have e1 : giv G 1 = 1 := hG.2.1 1 (by decide)
      rw [e1]
      refine va_forget (fun q hq => by have h7 := hH.2.2.2.2 q hq; have h8 : gb G ≤ q.base := h7; omega) ?_
      refine W.widen (k := 600002) (n := 7302232) (by have : cells + 0 = e_cn h2 := hc; omega) (by have : slots + 0 = e_sl h2 := hs; omega) ?_
      exact lw_ret hx hb hr hlocks hd
    · intro pc n H ls locs cells slots _ h4
      cases h4
    · intro pc n H ls locs cells slots _ h4
      cases h4
    · intro pc H ls locs cells slots h4
      cases h4
    · intro h4
      exact absurd h4 (by show ¬ 2 ≤ 1; decide)
  have hrun := e_run_ok (pk_ok 0 (by decide)) (hN B hG (fun _ => by rw [eB0])) (ev_ok hG htr 10) hEnd 5000 g erun
  have hm := e_run_mono 5000 g _ erun
  have hto := e_to_ok (pk_ok 0 (by decide)) (hN B0 hG0 (fun q => by cases q)) (ev_ok hG0 htr 10) hEnd hm.1 hm.2 hrun 13 g0 eoL
  rw [lg_entry_eq]
  have hl := lv_entry ([Value.ref b]) (n := 7) (Nat.le_of_ble_eq_true rfl)
  refine hto s.heap _ [] 0 0 ⟨(fun k q hq => by rw [List.getElem?_eq_none (by rw [cW_len]; exact Nat.zero_le _)] at hq; cases hq), by decide, va_S.rf⟩ ?_ rfl rfl
  rw [← m0_ml]
  have e9 : cLo G [(0, (.inr (.inr 4097) : eV))] = lv_args 0 [Value.ref b] := by
    show [(0, Value.ref (gad G 4096))] = [(0, Value.ref b)]
    rw [g3]
  show lv_has _ 7 (cLo G [(0, (.inr (.inr 4097) : eV))])
  rw [e9]
  exact hl
set_option maxHeartbeats 4000000 in
theorem lw_walk (l : Launch) (htr : l.stackTraces = false) (b : Addr) (xs : List Int32) : MetFree l x (headSpec (Jvm.Cond.code x code maxLocals ret :: tables_1) room_1) (lw_P b xs) (fun _ _ _ _ _ => True) lw_Q := by
  refine MetFree.of_bodyS (code := code) (maxLocals := maxLocals) (ret := ret) (by decide) ?_ ?_
  · intro args s m h hn
    obtain ⟨meth, c, h1, h2, h3, h4, h5, h6, -, -⟩ := Cond.code_spec hn (atoms_spec (ws := Jvm.Cond.code x code maxLocals ret :: tables_1) h _ List.mem_cons_self)
    exact ⟨meth, c, h1, h2, h3, h4, h5, h6⟩
  · intro p e s m args below meth c s₁ B hml0 hP _
    obtain ⟨rfl, hx, hbd, hgv⟩ := hP
    obtain ⟨scr, harrAt, hlist, hof, hsmall⟩ := hx
    obtain ⟨hcb, hkn, -, -⟩ := State.arrayAt?_spec harrAt
    have hown : s.vm.findClass R_law = some m.cls := findClass_of_methodNamed B.named
    have hts0 : ∀ c ∈ (Jvm.Cond.code x code maxLocals ret :: tables_1), c.before #[Value.ref b] s = true := atoms_spec (ws := Jvm.Cond.code x code maxLocals ret :: tables_1) B.pre
    have hts : ∀ w ∈ lw_tbl, w.before #[Value.ref b] s = true := k2_hts_sels lw_privs (fun w hw => hts0 w (List.mem_cons_of_mem _ hw)) lw_privs_ok
    have hml : c.maxLocals = 7 := B.maxLocals_eq (hts0 _ List.mem_cons_self)
    have htab : c.exceptionTable.toList = [] := by
      obtain ⟨meth9, c9, h1, h2, -, -, -, -, h7, -⟩ := Cond.code_spec B.named (hts0 _ List.mem_cons_self)
      cases Option.some.inj (h1.symm.trans B.method)
      cases Option.some.inj (h2.symm.trans (Stand.of_body B).code)
      rw [Array.isEmpty_iff.mp h7]
    have X₀ : Stand p l e room_1 s m #[Value.ref b] below meth c s₁ [] 0 0 := Stand.of_body B
    have hh0 : s₁.heap = s.heap := by rw [B.state]; rfl
    have hsz : scr.slots.size = xs.length := by rw [← Array.length_toList, hlist, List.length_map]
    have hval : ∀ j : Nat, j < xs.length → scr.slots[j]? = some (.int (xs.getD j 0)) := fun j hj => by
      rw [← Array.getElem?_toList, hlist]
      simp [hj]
    have hbl : b < s.heap.size := (Array.getElem?_eq_some_iff.mp hcb).1
    have hX : va_X b xs.length (fun j => xs.getD j 0) s s.heap := ⟨scr, hcb, hof, hkn, hsz, hval⟩
    have K : W p l e room_1 s m #[Value.ref b] below meth c s₁.heap [] 0 0 (lw_Z below #[Value.ref b] s) (entryFrame m ([Value.ref b] : List Value).toArray 7) := by
      rw [hh0]
      exact whole_start l htr htab hbd ⟨B.exec, B.bytes, B.returns, hml, hown, hts, hX, hbl, B.notSynchronized, hgv⟩
    obtain ⟨t, a1, o, b1, b2, b3⟩ := K s₁ rfl X₀
    exact ⟨t, o, a1, b1, b2, b3⟩
theorem lw_pre_spec {args : Array Value} {s : State} (h : (Jvm.Cond.and given_1 narrow_1).before args s = true) (hr : rest_1_c.before args s = true) : ∃ (b : Addr) (xs : List Int32), lw_P b xs args s := by
  have hs := flat_of_before _ h
  have hq := flat_of_before _ hr
  have hc : (Cond.count 1).before args s = true := hs _ (by decide +kernel)
  have harr : (Cond.arrayOf (.arg 0) .int).before args s = true := hs _ (by decide +kernel)
  have hle : (Cond.le (.length (.arg 0)) (.int 6)).before args s = true := hs _ (by decide +kernel)
  have hlen : (Cond.isInt (.length (.arg 0))).before args s = true := hq _ (by decide +kernel)
  have hall : (Cond.all (.arg 0) (.isInt (.elem (.arg 0) (.index 0)))).before args s = true := hq _ (by decide +kernel)
  obtain ⟨b, xs, hb, hx⟩ := State.ints_of_pre rfl harr hlen hall
  have hsm : xs.length < 2 ^ 31 := hx.choose_spec.2.2.2
  have hev : (Term.length (.arg 0)).eval args s none [] s = some (.int xs.length.toInt32) := hx.length_eval hb
  have hv := Cond.le_ints hev (show (Term.int 6).eval args s none [] s = some (.int 6) from rfl)
  have hd : xs.length.toInt32 ≤ 6 := by
    simpa [Cond.before, Cond.holds, hv] using hle
  have hN : xs.length ≤ 6 := (Int32.ofNat_le_ofNat hsm (by decide)).mp (show Int32.ofNat xs.length ≤ Int32.ofNat 6 from hd)
  exact ⟨b, xs, Cond.one_arg hc (show args[0]? = some (.ref b) from hb), hx, hN, h⟩
theorem lw_comes (l : Launch) (htr : l.stackTraces = false) : Comes l x (Jvm.Cond.code x code maxLocals ret :: tables_1) room_1 (fun tb e args s => Calls_1 tb e args s ∧ rest_1 tb e args s ∧ Pre_1 tb e args s)
    (fun _ _ args s o t => lw_Q args s o t) := by
  intro p e ha hc hk s m args below hf hfit hheap happ hpre
  obtain ⟨b, xs, hP⟩ := lw_pre_spec hpre.2.2 hpre.2.1
  obtain ⟨k, o, h1, h2, h3, hQ⟩ := lw_walk l htr b xs p e ha hc hk s m args below hf ((Spec.applies_iff_loose hf).mp happ).1 hP trivial
  exact ⟨k, o, h1, h2, h3, hQ⟩
theorem lw_flags {l : Launch} (h : l.flags = flags0) : l.stackTraces = false := by
  unfold Launch.stackTraces
  rw [h]
  decide +kernel
theorem lw_frame {s t : State} {o : Outcome} {args : Array Value} (h : Framed s o t [] 600002 7302232) :
    Framed s o t (fieldLocs frame_1_writes args s ++ arrayLocs frame_1_arrays args s ++ staticLocs frame_1_statics s) 600002 7302232 := h
theorem lw_limb (L : Cond) (hL : ∀ (args : Array Value) (s t : State), L.after args s (.returned (some (.int 1))) t = true) :
    ArmFor flags0 classFile x code maxLocals ret World_1 tables_1 room_1 Calls_1 rest_1 Pre_1
      (fun tb e a s o t => postC L tb e a s o t ∧ Framed s o t (fieldLocs frame_1_writes a s ++ arrayLocs frame_1_arrays a s ++ staticLocs frame_1_statics s) 600002 7302232) := by
  intro l hfl _ _ p e ha hc hk s m args below hf hfit hheap happ hpre
  obtain ⟨k, o, h1, h2, h3, rfl, hF⟩ := lw_comes l (lw_flags hfl) p e ha hc hk s m args below hf hfit hheap happ hpre
  exact ⟨k, _, h1, h2, h3, hL args s _, lw_frame hF⟩
