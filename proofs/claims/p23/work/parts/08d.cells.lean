/-! ===== written by program (wip/engine2/gen5.py): instructions on cells ===== -/
theorem e_sized {p : Program} {l : Launch} {e : Env} {R : Room} {s : State} {m : MethodId} {args : Array Value} {below : List Frame} {meth : Method} {c : Code} {H : Heap} {locs : List Loc} {cells slots : Nat} {Q : State → Prop} {g : JFrame} (k : H.size ≤ s.heap.size + cells → W p l e R s m args below meth c H locs cells slots Q g) : W p l e R s m args below meth c H locs cells slots Q g := fun T hT X => k (by rw [← hT]; exact X.heapSize) T hT X
theorem e_D {G : GT} {B : eB} {h : eH} (hG : e_GOK G B) (hz : e_sz h ≤ 1024) : va_D (gF G) (cW G h) := by
  have key : ∀ (i : Nat) (x : Nat × va_E), (cW G h)[i]? = some x → i < e_sz h ∧ x.1 = gb G + i := by
    intro i x hx
    have hi : i < e_sz h := by
      have := (List.getElem?_eq_some_iff.mp hx).1
      rw [cW_len] at this
      exact this
    rw [cW_at hi] at hx
    cases hx
    exact ⟨hi, hG.1 i (by omega)⟩
  refine ⟨fun i j x z hi hj hxz => ?_, fun i x hi => ?_⟩
  · have h1 := key i x hi
    have h2 := key j z hj
    omega
  · have h1 := key i x hi
    show gb G ≤ x.1
    omega
theorem cE_obj {G : GT} {a n : Nat} {f : Nat → eV} (ha : a < 100) : cE G (a, n, f) = .inr (a, (List.range n).map fun j => cV G (f j)) := if_pos ha
theorem cE_int {G : GT} {n : Nat} {f : Nat → eV} : cE G (100, n, f) = .inl (gA G 100, n, .inl fun j => cI G (f j)) := rfl
theorem cE_byte {G : GT} {n : Nat} {f : Nat → eV} : cE G (101, n, f) = .inl (gA G 101, n, .inl fun j => cI G (f j)) := rfl
theorem cE_long {G : GT} {n : Nat} {f : Nat → eV} : cE G (102, n, f) = .inl (gA G 102, n, .inr (.inl fun j => cL (f j))) := rfl
theorem cE_code {G : GT} {n : Nat} {f : Nat → eV} : cE G (103, n, f) = .inl (gA G 103, n, .inr (.inr (.inr (.inr fun j => cO G (f j))))) := rfl
theorem cE_rows {G : GT} {n : Nat} {f : Nat → eV} : cE G (104, n, f) = .inl (gA G 104, n, .inr (.inr (.inr (.inr fun j => cO G (f j))))) := rfl
theorem cR_at {G : GT} {n : Nat} {f : Nat → eV} {b : Nat} (hb : b < n) : ((List.range n).map fun j => cV G (f j))[b]? = some (cV G (f b)) := by
  rw [List.getElem?_map, List.getElem?_range hb]
  rfl
theorem cR_set {G : GT} {n : Nat} {f : Nat → eV} {b : Nat} {v : eV} : ((List.range n).map fun j => cV G (f j)).set b (cV G v) = (List.range n).map fun j => cV G (e_up f b v j) := by
  apply List.ext_getElem?
  intro j
  by_cases hj : j < n
  · rw [cR_at hj]
    by_cases e : b = j
    · subst e
      rw [List.getElem?_set_self (by simpa using hj)]
      unfold e_up
      rw [Nat.beq_refl]
      rfl
    · rw [List.getElem?_set_ne e, cR_at hj]
      unfold e_up
      have : Nat.beq j b = false := by
        cases hq : Nat.beq j b with
        | false => rfl
        | true => exact absurd (Nat.eq_of_beq_eq_true hq).symm e
      rw [this]
      rfl
  · rw [List.getElem?_eq_none (by simp; omega), List.getElem?_eq_none (by simp; omega)]
theorem e_up_if (f : Nat → eV) (b : Nat) (v : eV) (j : Nat) : e_up f b v j = if j = b then v else f j := by
  unfold e_up
  by_cases e : j = b
  · subst e
    rw [Nat.beq_refl, if_pos rfl]
    rfl
  · have : Nat.beq j b = false := by
      cases hq : Nat.beq j b with
      | false => rfl
      | true => exact absurd (Nat.eq_of_beq_eq_true hq) e
    rw [this, if_neg e]
    rfl
theorem cI_up {G : GT} {f : Nat → eV} {b x : Nat} : (fun j => cI G (e_up f b (.inl x) j)) = upd (fun j => cI G (f j)) b (giv G x) := by
  funext j
  rw [e_up_if]
  unfold upd
  by_cases e : j = b
  · rw [if_pos e, if_pos e]; rfl
  · rw [if_neg e, if_neg e]
theorem cL_up {f : Nat → eV} {b x : Nat} : (fun j => cL (e_up f b (.inr (.inl x)) j)) = vp_updL (fun j => cL (f j)) b (lN x) := by
  funext j
  rw [e_up_if]
  unfold vp_updL
  by_cases e : j = b
  · rw [if_pos e, if_pos e]; rfl
  · rw [if_neg e, if_neg e]
theorem cO_up {G : GT} {f : Nat → eV} {b q : Nat} : (fun j => cO G (e_up f b (.inr (.inr (q + 1))) j)) = va_up (fun j => cO G (f j)) b (some (gad G q)) := by
  funext j
  rw [e_up_if]
  unfold va_up
  by_cases e : j = b
  · rw [if_pos e, if_pos e]; rfl
  · rw [if_neg e, if_neg e]
theorem e_ix {G : GT} {B : eB} {x n : Nat} (hG : e_GOK G B) (h1 : x < n) (h2 : n ≤ 1000000) : vp_in (giv G x) n ∧ (giv G x).toNatClampNeg = x := by
  rw [hG.2.1 x (by omega)]
  exact ⟨vp_in_nI h1 (by omega), nI_clamp (by omega)⟩
/-- which values a field or array of a type takes -/
def e_tc (c : Nat) (t : FieldType) : Bool := match c, t with
  | 0, .int => true
  | 1, .boolean => true
  | 2, .long => true
  | 3, .object _ => true
  | 3, .array _ => true
  | _, _ => false
theorem e_typ_ok {G : GT} {B : eB} {c : Nat} {t : FieldType} {v : eV} (hG : e_GOK G B) (h1 : e_tc c t = true) (h2 : e_typ c v = true) : narrow t (cV G v) = cV G v ∧ fits t (cV G v) = true := by
  unfold e_tc at h1
  split at h1
  · rcases v with x | x | x
    · exact ⟨rfl, rfl⟩
    · cases h2
    · cases h2
  · rcases v with x | x | x
    · have hx : x ≤ 1 := by
        unfold e_typ at h2
        have h3 : Nat.ble x 1 = true := by
          cases hb : Nat.ble x 1 with
          | true => rfl
          | false =>
            dsimp only at h2
            rw [hb] at h2
            cases h2
        exact Nat.le_of_ble_eq_true h3
      show narrow .boolean (.int (giv G x)) = .int (giv G x) ∧ fits .boolean (.int (giv G x)) = true
      rw [hG.2.1 x (by omega)]
      have : x = 0 ∨ x = 1 := by omega
      rcases this with rfl | rfl
      · exact ⟨rfl, rfl⟩
      · exact ⟨rfl, rfl⟩
    · cases h2
    · cases h2
  · rcases v with x | x | x
    · cases h2
    · exact ⟨rfl, rfl⟩
    · cases h2
  · rcases v with x | x | x
    · cases h2
    · cases h2
    · cases x <;> exact ⟨rfl, rfl⟩
  · rcases v with x | x | x
    · cases h2
    · cases h2
    · cases x <;> exact ⟨rfl, rfl⟩
  · cases h1
theorem i_getf {a b c9 : Nat} {E : eE} {B : eB} {pc : Nat} {lo : List (Nat × eV)} {st : List eV} {h : eH} {r : eG ⊕ eO} (hf : f_getf a b c9 E B (pc, lo, st, h) = some r) : ∃ q st2 n f, st = .inr (.inr (q + 1)) :: st2 ∧ e_get h q = (a, n, f) ∧ q < e_sz h ∧ b < n ∧ r = .inl (pc + 3, lo, f b :: st2, h) := by
  unfold f_getf at hf
  split at hf
  · rename_i p9 l9 q st2 h9 heq
    cases heq
    generalize hge : e_get h q = x at hf
    obtain ⟨k, n, f⟩ := x
    dsimp only at hf
    cases hg : (Nat.ble (q + 1) (e_sz h) && Nat.ble q 1023 && Nat.beq k a && Nat.ble (b + 1) n) with
    | false => rw [hg] at hf; cases hf
    | true =>
      rw [hg] at hf
      cases hf
      simp only [Bool.and_eq_true] at hg
      have e : k = a := Nat.eq_of_beq_eq_true hg.1.2
      subst e
      exact ⟨q, st2, n, f, rfl, hge, Nat.le_of_ble_eq_true hg.1.1.1, Nat.le_of_ble_eq_true hg.2, rfl⟩
  · cases hf
theorem s_getf {y pc a b c9 : Nat} {C : String} {T : u_T} {N : Nat} (ha : a < 100) (hcl : vwCl[a]? = some (C, T, N)) (hk : b < N) (hci : ∀ w ∈ u_ws C T N, w ∈ GW) (hw : Cond.fieldLink (nm y).cls c9 (T b).1 (T b).2.1 (T b).2.2.1 ∈ GW) (hd : decode (cb y) pc = .ok (.getfield c9, 3)) : e_P y pc (f_getf a b c9) := by
  intro G B M d out E g r N hpc hf
  obtain ⟨p, l, e, R, s, m, args, below, meth, c, Q, c0, s0⟩ := M
  obtain ⟨hx, hb, hml, hown, hts, hX, hG, hlk, hin, hsh, hroom, hfr, htr, htab, hscr⟩ := N
  obtain ⟨pc', lo, st, h⟩ := g
  obtain rfl : pc' = pc := hpc
  obtain ⟨q, st2, n, f, rfl, hge, hq, hbn, rfl⟩ := i_getf hf
  refine ⟨_, rfl, fun hcF hsF k => ?_⟩
  intro H ls locs cells slots hH hl hc hs
  refine va_get (D := gD G) hx hb hts hci hown hX.1 hH.1 q (by rw [cW_at hq, hge, cE_obj ha]) hcl b hk (hts _ hw) (fun _ h9 => h9) (cR_at hbn) hd ?_
  exact k H ls locs cells slots hH hl hc hs
theorem i_putf {a b c9 : Nat} {E : eE} {B : eB} {pc : Nat} {lo : List (Nat × eV)} {st : List eV} {h : eH} {r : eG ⊕ eO} (hf : f_putf a b c9 E B (pc, lo, st, h) = some r) : ∃ v q st2 n f, st = v :: .inr (.inr (q + 1)) :: st2 ∧ e_get h q = (a, n, f) ∧ q < e_sz h ∧ b < n ∧ e_typ c9 v = true ∧ r = .inl (pc + 3, lo, st2, e_set h q (a, n, e_up f b v)) := by
  unfold f_putf at hf
  split at hf
  · rename_i p9 l9 v q st2 h9 heq
    cases heq
    generalize hge : e_get h q = x at hf
    obtain ⟨k, n, f⟩ := x
    dsimp only at hf
    cases hg : (Nat.ble (q + 1) (e_sz h) && Nat.ble q 1023 && Nat.beq k a && Nat.ble (b + 1) n && e_typ c9 v) with
    | false => rw [hg] at hf; cases hf
    | true =>
      rw [hg] at hf
      cases hf
      simp only [Bool.and_eq_true] at hg
      have e : k = a := Nat.eq_of_beq_eq_true hg.1.1.2
      subst e
      exact ⟨v, q, st2, n, f, rfl, hge, Nat.le_of_ble_eq_true hg.1.1.1.1, Nat.le_of_ble_eq_true hg.1.2, hg.2, rfl⟩
  · cases hf
theorem s_putf {y pc a b c9 i9 : Nat} {C : String} {T : u_T} {N : Nat} {ty0 : Nat → FieldType} (ha : a < 100) (hcl : vwCl[a]? = some (C, T, N)) (hk : b < N) (hci : ∀ w ∈ u_ws C T N, w ∈ GW) (hty : ∀ k, k < N → parseFieldDescriptor (T k).2.2.1 = some (ty0 k)) (hnm : ∀ a, a < N → ∀ b, b < N → a ≠ b → (T a).2.1 ≠ (T b).2.1) (hfi : (T b).2.2.2 = false) (htc : e_tc c9 (ty0 b) = true) (hw : Cond.fieldLink (nm y).cls i9 (T b).1 (T b).2.1 (T b).2.2.1 ∈ GW) (hd : decode (cb y) pc = .ok (.putfield i9, 3)) : e_P y pc (f_putf a b c9) := by
  intro G B M d out E g r N hpc hf
  obtain ⟨p, l, e, R, s, m, args, below, meth, c, Q, c0, s0⟩ := M
  obtain ⟨hx, hb, hml, hown, hts, hX, hG, hlk, hin, hsh, hroom, hfr, htr, htab, hscr⟩ := N
  obtain ⟨pc', lo, st, h⟩ := g
  obtain rfl : pc' = pc := hpc
  obtain ⟨v, q, st2, n, f, rfl, hge, hq, hbn, htv, rfl⟩ := i_putf hf
  refine ⟨_, rfl, fun hcF hsF k => ?_⟩
  intro H ls locs cells slots hH hl hc hs
  have hz : e_sz h ≤ 1024 := hH.2.1
  have ht2 := e_typ_ok hG htc htv
  refine va_put (D := gD G) hx hb hts hci ty0 hty hnm hown hX.1 hH.1 (e_D hG hz) hH.2.2 q (by rw [cW_at hq, hge, cE_obj ha]) hcl b hk (hts _ hw) (fun _ h9 => h9) hfi (hty b hk) ht2.1 ht2.2 (by simpa using hbn) hd (fun H1 locs1 hP1 hD1 hS1 => ?_)
  refine k H1 ls locs1 cells slots ⟨?_, hz, hS1⟩ hl hc hs
  show va_P (gD G) vwCl (cW G (e_set h q (a, n, e_up f b v))) H1
  rw [cW_set hq hz, cE_obj ha, ← cR_set]
  exact hP1
theorem s_putfF {y pc a b c9 i9 : Nat} {C : String} {T : u_T} {N : Nat} {ty0 : Nat → FieldType} (ha : a < 100) (hcl : vwCl[a]? = some (C, T, N)) (hk : b < N) (hci : ∀ w ∈ u_ws C T N, w ∈ GW) (hty : ∀ k, k < N → parseFieldDescriptor (T k).2.2.1 = some (ty0 k)) (hnm : ∀ a, a < N → ∀ b, b < N → a ≠ b → (T a).2.1 ≠ (T b).2.1) (hfi : (T b).2.2.2 = true) (hini : (nm y).name = "<init>") (hdc : (T b).1 = (nm y).cls) (htc : e_tc c9 (ty0 b) = true) (hw : Cond.fieldLink (nm y).cls i9 (T b).1 (T b).2.1 (T b).2.2.1 ∈ GW) (hd : decode (cb y) pc = .ok (.putfield i9, 3)) : e_P y pc (f_putf a b c9) := by
  intro G B M d out E g r N hpc hf
  obtain ⟨p, l, e, R, s, m, args, below, meth, c, Q, c0, s0⟩ := M
  obtain ⟨hx, hb, hml, hown, hts, hX, hG, hlk, hin, hsh, hroom, hfr, htr, htab, hscr⟩ := N
  obtain ⟨pc', lo, st, h⟩ := g
  obtain rfl : pc' = pc := hpc
  obtain ⟨v, q, st2, n, f, rfl, hge, hq, hbn, htv, rfl⟩ := i_putf hf
  refine ⟨_, rfl, fun hcF hsF k => ?_⟩
  intro H ls locs cells slots hH hl hc hs
  have hz : e_sz h ≤ 1024 := hH.2.1
  have ht2 := e_typ_ok hG htc htv
  refine va_putF (D := gD G) hx hb hts hci ty0 hty hnm hown hX.1 hH.1 (e_D hG hz) hH.2.2 q (by rw [cW_at hq, hge, cE_obj ha]) hcl b hk (hts _ hw) (fun _ h9 => h9) hfi (hin hini) hdc (hty b hk) ht2.1 ht2.2 (by simpa using hbn) hd (fun H1 locs1 hP1 hD1 hS1 => ?_)
  refine k H1 ls locs1 cells slots ⟨?_, hz, hS1⟩ hl hc hs
  show va_P (gD G) vwCl (cW G (e_set h q (a, n, e_up f b v))) H1
  rw [cW_set hq hz, cE_obj ha, ← cR_set]
  exact hP1
theorem i_xald {t cc : Nat} {a b c9 : Nat} {E : eE} {B : eB} {pc : Nat} {lo : List (Nat × eV)} {st : List eV} {h : eH} {r : eG ⊕ eO} (hf : f_xald t cc a b c9 E B (pc, lo, st, h) = some r) : ∃ x q st2 n f, st = .inl x :: .inr (.inr (q + 1)) :: st2 ∧ e_get h q = (t, n, f) ∧ q < e_sz h ∧ x < n ∧ n ≤ 1000000 ∧ e_typ cc (f x) = true ∧ r = .inl (pc + 1, lo, f x :: st2, h) := by
  unfold f_xald at hf
  split at hf
  · rename_i p9 l9 x q st2 h9 heq
    cases heq
    unfold e_at at hf
    generalize hge : e_get h q = z at hf
    obtain ⟨k, n, f⟩ := z
    dsimp only at hf
    cases hg : (Nat.ble (q + 1) (e_sz h) && Nat.ble q 1023 && Nat.beq k t && Nat.ble (x + 1) n && Nat.ble n 1000000) with
    | false => rw [hg] at hf; cases hf
    | true =>
      rw [hg] at hf
      dsimp only [cond] at hf
      cases ht : e_typ cc (f x) with
      | false => rw [ht] at hf; cases hf
      | true =>
        rw [ht] at hf
        cases hf
        simp only [Bool.and_eq_true] at hg
        have e : k = t := Nat.eq_of_beq_eq_true hg.1.1.2
        subst e
        exact ⟨x, q, st2, n, f, rfl, hge, Nat.le_of_ble_eq_true hg.1.1.1.1, Nat.le_of_ble_eq_true hg.1.2, Nat.le_of_ble_eq_true hg.2, ht, rfl⟩
  · cases hf
theorem e_typ_i {c : Nat} {v : eV} (hc : c = 0 ∨ c = 4) (h : e_typ c v = true) : ∃ x, v = .inl x := by
  rcases v with x | x | x
  · exact ⟨x, rfl⟩
  · rcases hc with rfl | rfl <;> cases h
  · rcases hc with rfl | rfl <;> cases h
theorem e_typ_l {v : eV} (h : e_typ 2 v = true) : ∃ x, v = .inr (.inl x) := by
  rcases v with x | x | x
  · cases h
  · exact ⟨x, rfl⟩
  · cases h
theorem e_typ_r {v : eV} (h : e_typ 3 v = true) : ∃ x, v = .inr (.inr x) := by
  rcases v with x | x | x
  · cases h
  · cases h
  · exact ⟨x, rfl⟩
theorem cO_rf {G : GT} {x : Nat} : va_rf (cO G (.inr (.inr x))) = cV G (.inr (.inr x)) := by cases x <;> rfl
theorem s_iald {y pc a b c9 : Nat} (hd : decode (cb y) pc = .ok (.iaload, 1)) : e_P y pc (f_xald 100 0 a b c9) := by
  intro G B M d out E g r N hpc hf
  obtain ⟨p, l, e, R, s, m, args, below, meth, c, Q, c0, s0⟩ := M
  obtain ⟨hx, hb, hml, hown, hts, hX, hG, hlk, hin, hsh, hroom, hfr, htr, htab, hscr⟩ := N
  obtain ⟨pc', lo, st, h⟩ := g
  obtain rfl : pc' = pc := hpc
  obtain ⟨x, q, st2, n, f, rfl, hge, hq, hxn, hn1, htv, rfl⟩ := i_xald hf
  refine ⟨_, rfl, fun hcF hsF k => ?_⟩
  intro H ls locs cells slots hH hl hc hs
  obtain ⟨v, hv⟩ := e_typ_i (Or.inl rfl) htv
  obtain ⟨i1, i2⟩ := e_ix hG hxn hn1
  refine va_iald (D := gD G) hx hb hX.1 hH.1 q 0 (by rw [cW_at hq, hge, cE_int]) rfl i1 hd ?_
  have := k H ls locs cells slots hH hl hc hs
  rw [i2]
  dsimp only
  rw [hv] at this ⊢
  exact this
theorem s_bald {y pc a b c9 : Nat} (hd : decode (cb y) pc = .ok (.baload, 1)) : e_P y pc (f_xald 101 0 a b c9) := by
  intro G B M d out E g r N hpc hf
  obtain ⟨p, l, e, R, s, m, args, below, meth, c, Q, c0, s0⟩ := M
  obtain ⟨hx, hb, hml, hown, hts, hX, hG, hlk, hin, hsh, hroom, hfr, htr, htab, hscr⟩ := N
  obtain ⟨pc', lo, st, h⟩ := g
  obtain rfl : pc' = pc := hpc
  obtain ⟨x, q, st2, n, f, rfl, hge, hq, hxn, hn1, htv, rfl⟩ := i_xald hf
  refine ⟨_, rfl, fun hcF hsF k => ?_⟩
  intro H ls locs cells slots hH hl hc hs
  obtain ⟨v, hv⟩ := e_typ_i (Or.inl rfl) htv
  obtain ⟨i1, i2⟩ := e_ix hG hxn hn1
  refine va_bald (D := gD G) hx hb hX.1 hH.1 q 1 (by rw [cW_at hq, hge, cE_byte]) rfl i1 hd ?_
  have := k H ls locs cells slots hH hl hc hs
  rw [i2]
  dsimp only
  rw [hv] at this ⊢
  exact this
theorem s_lald {y pc a b c9 : Nat} (hd : decode (cb y) pc = .ok (.laload, 1)) : e_P y pc (f_xald 102 2 a b c9) := by
  intro G B M d out E g r N hpc hf
  obtain ⟨p, l, e, R, s, m, args, below, meth, c, Q, c0, s0⟩ := M
  obtain ⟨hx, hb, hml, hown, hts, hX, hG, hlk, hin, hsh, hroom, hfr, htr, htab, hscr⟩ := N
  obtain ⟨pc', lo, st, h⟩ := g
  obtain rfl : pc' = pc := hpc
  obtain ⟨x, q, st2, n, f, rfl, hge, hq, hxn, hn1, htv, rfl⟩ := i_xald hf
  refine ⟨_, rfl, fun hcF hsF k => ?_⟩
  intro H ls locs cells slots hH hl hc hs
  obtain ⟨v, hv⟩ := e_typ_l htv
  obtain ⟨i1, i2⟩ := e_ix hG hxn hn1
  refine va_lald (D := gD G) hx hb hX.1 hH.1 q 2 (by rw [cW_at hq, hge, cE_long]) rfl i1 hd ?_
  have := k H ls locs cells slots hH hl hc hs
  rw [i2]
  dsimp only
  rw [hv] at this ⊢
  exact this
theorem s_aald {y pc a b c9 : Nat} (hd : decode (cb y) pc = .ok (.aaload, 1)) : e_P y pc (f_xald 103 3 a b c9) := by
  intro G B M d out E g r N hpc hf
  obtain ⟨p, l, e, R, s, m, args, below, meth, c, Q, c0, s0⟩ := M
  obtain ⟨hx, hb, hml, hown, hts, hX, hG, hlk, hin, hsh, hroom, hfr, htr, htab, hscr⟩ := N
  obtain ⟨pc', lo, st, h⟩ := g
  obtain rfl : pc' = pc := hpc
  obtain ⟨x, q, st2, n, f, rfl, hge, hq, hxn, hn1, htv, rfl⟩ := i_xald hf
  refine ⟨_, rfl, fun hcF hsF k => ?_⟩
  intro H ls locs cells slots hH hl hc hs
  obtain ⟨v, hv⟩ := e_typ_r htv
  obtain ⟨i1, i2⟩ := e_ix hG hxn hn1
  refine va_aldq (D := gD G) (C := "IslandHall$Code") hx hb hX.1 hH.1 q 3 (by rw [cW_at hq, hge, cE_code]) rfl i1 hd ?_
  have := k H ls locs cells slots hH hl hc hs
  rw [i2]
  dsimp only
  rw [hv] at this ⊢
  rw [cO_rf]
  exact this
theorem s_rald {y pc a b c9 : Nat} (hd : decode (cb y) pc = .ok (.aaload, 1)) : e_P y pc (f_xald 104 3 a b c9) := by
  intro G B M d out E g r N hpc hf
  obtain ⟨p, l, e, R, s, m, args, below, meth, c, Q, c0, s0⟩ := M
  obtain ⟨hx, hb, hml, hown, hts, hX, hG, hlk, hin, hsh, hroom, hfr, htr, htab, hscr⟩ := N
  obtain ⟨pc', lo, st, h⟩ := g
  obtain rfl : pc' = pc := hpc
  obtain ⟨x, q, st2, n, f, rfl, hge, hq, hxn, hn1, htv, rfl⟩ := i_xald hf
  refine ⟨_, rfl, fun hcF hsF k => ?_⟩
  intro H ls locs cells slots hH hl hc hs
  obtain ⟨v, hv⟩ := e_typ_r htv
  obtain ⟨i1, i2⟩ := e_ix hG hxn hn1
  have ha : (cW G h)[q]? = some (gad G q, .inl (gA G 104, n, .inr (.inr (.inr (.inr fun j => cO G (f j)))))) := by rw [cW_at hq, hge, cE_rows]
  have hlt : (giv G x).toNatClampNeg < n := by rw [i2]; exact hxn
  refine W.aald (v := va_rf (cO G (f x))) (ty := .array .long) hx hb (hH.1 q _ ha) ((hX.1.2 4 _ rfl).1 n (fun j => va_rf (cO G (f j)))) rfl (fun q => by cases q) (by show ¬ (_ ∨ (arrV _ _ _).slots.size ≤ _); rw [arrV_size]; exact i1) (by show (arrV _ _ _).slots[_]? = _; rw [arrV_read _ _ hlt, i2]) rfl rfl hd ?_
  have := k H ls locs cells slots hH hl hc hs
  rw [hv] at this ⊢
  rw [cO_rf]
  exact this
theorem i_xast {t cc : Nat} {a b c9 : Nat} {E : eE} {B : eB} {pc : Nat} {lo : List (Nat × eV)} {st : List eV} {h : eH} {r : eG ⊕ eO} (hf : f_xast t cc a b c9 E B (pc, lo, st, h) = some r) : ∃ v x q st2 n f, st = v :: .inl x :: .inr (.inr (q + 1)) :: st2 ∧ e_get h q = (t, n, f) ∧ q < e_sz h ∧ x < n ∧ n ≤ 1000000 ∧ e_typ cc v = true ∧ r = .inl (pc + 1, lo, st2, e_set h q (t, n, e_up f x v)) := by
  unfold f_xast at hf
  split at hf
  · rename_i p9 l9 v x q st2 h9 heq
    cases heq
    generalize hge : e_get h q = z at hf
    obtain ⟨k, n, f⟩ := z
    dsimp only at hf
    cases hg : (Nat.ble (q + 1) (e_sz h) && Nat.ble q 1023 && Nat.beq k t && Nat.ble (x + 1) n && Nat.ble n 1000000 && e_typ cc v) with
    | false => rw [hg] at hf; cases hf
    | true =>
      rw [hg] at hf
      cases hf
      simp only [Bool.and_eq_true] at hg
      have e : k = t := Nat.eq_of_beq_eq_true hg.1.1.1.2
      subst e
      exact ⟨v, x, q, st2, n, f, rfl, hge, Nat.le_of_ble_eq_true hg.1.1.1.1.1, Nat.le_of_ble_eq_true hg.1.1.2, Nat.le_of_ble_eq_true hg.1.2, hg.2, rfl⟩
  · cases hf
theorem s_iast {y pc a b c9 : Nat} (hd : decode (cb y) pc = .ok (.iastore, 1)) : e_P y pc (f_xast 100 0 a b c9) := by
  intro G B M d out E g r N hpc hf
  obtain ⟨p, l, e, R, s, m, args, below, meth, c, Q, c0, s0⟩ := M
  obtain ⟨hx, hb, hml, hown, hts, hX, hG, hlk, hin, hsh, hroom, hfr, htr, htab, hscr⟩ := N
  obtain ⟨pc', lo, st, h⟩ := g
  obtain rfl : pc' = pc := hpc
  obtain ⟨v, x, q, st2, n, f, rfl, hge, hq, hxn, hn1, htv, rfl⟩ := i_xast hf
  refine ⟨_, rfl, fun hcF hsF k => ?_⟩
  intro H ls locs cells slots hH hl hc hs
  have hz : e_sz h ≤ 1024 := hH.2.1
  obtain ⟨w, rfl⟩ := e_typ_i (Or.inl rfl) htv
  obtain ⟨i1, i2⟩ := e_ix hG hxn hn1
  refine va_iast (D := gD G) hx hb hX.1 hH.1 (e_D hG hz) hH.2.2 q 0 (by rw [cW_at hq, hge, cE_int]) rfl i1 hd (fun H1 locs1 hP1 hD1 hS1 => ?_)
  refine k H1 ls locs1 cells slots ⟨?_, hz, hS1⟩ hl hc hs
  show va_P (gD G) vwCl (cW G (e_set h q (100, n, e_up f x (.inl w)))) H1
  rw [cW_set hq hz, cE_int, cI_up]
  rw [i2] at hP1
  exact hP1
theorem s_last {y pc a b c9 : Nat} (hd : decode (cb y) pc = .ok (.lastore, 1)) : e_P y pc (f_xast 102 2 a b c9) := by
  intro G B M d out E g r N hpc hf
  obtain ⟨p, l, e, R, s, m, args, below, meth, c, Q, c0, s0⟩ := M
  obtain ⟨hx, hb, hml, hown, hts, hX, hG, hlk, hin, hsh, hroom, hfr, htr, htab, hscr⟩ := N
  obtain ⟨pc', lo, st, h⟩ := g
  obtain rfl : pc' = pc := hpc
  obtain ⟨v, x, q, st2, n, f, rfl, hge, hq, hxn, hn1, htv, rfl⟩ := i_xast hf
  refine ⟨_, rfl, fun hcF hsF k => ?_⟩
  intro H ls locs cells slots hH hl hc hs
  have hz : e_sz h ≤ 1024 := hH.2.1
  obtain ⟨w, rfl⟩ := e_typ_l htv
  obtain ⟨i1, i2⟩ := e_ix hG hxn hn1
  refine va_last (D := gD G) hx hb hX.1 hH.1 (e_D hG hz) hH.2.2 q 2 (by rw [cW_at hq, hge, cE_long]) rfl i1 hd (fun H1 locs1 hP1 hD1 hS1 => ?_)
  refine k H1 ls locs1 cells slots ⟨?_, hz, hS1⟩ hl hc hs
  show va_P (gD G) vwCl (cW G (e_set h q (102, n, e_up f x (.inr (.inl w))))) H1
  rw [cW_set hq hz, cE_long, cL_up]
  rw [i2] at hP1
  exact hP1
theorem e_byte {G : GT} {B : eB} {x : Nat} (hG : e_GOK G B) (h : e_typ 4 (.inl x) = true) : (giv G x).toInt8.toInt32 = giv G x := by
  have h1 : (Nat.ble x 127 || (Nat.ble 4294967168 x && l32 x)) = true := h
  simp only [Bool.or_eq_true, Bool.and_eq_true] at h1
  rcases h1 with h1 | ⟨h1, h2⟩
  · have := Nat.le_of_ble_eq_true h1
    rw [hG.2.1 x (by omega)]
    exact n32_b x (by omega)
  · have a1 := Nat.le_of_ble_eq_true h1
    have a2 := l32_lt h2
    rw [hG.2.1 x a2, n32_i2b a2]
    congr 1
    unfold e_i2b
    cases h3 : Nat.ble (x % 256) 127 with
    | true =>
      have := Nat.le_of_ble_eq_true h3
      omega
    | false =>
      show x % 256 + 4294967040 = x
      omega
theorem e_bnar {G : GT} {B : eB} {x : Nat} (hG : e_GOK G B) (h : e_typ 4 (.inl x) = true) : vp_nar .byte (giv G x) = giv G x := by rw [vp_nar_byte]; exact e_byte hG h
theorem s_bast {y pc a b c9 : Nat} (hd : decode (cb y) pc = .ok (.bastore, 1)) : e_P y pc (f_xast 101 4 a b c9) := by
  intro G B M d out E g r N hpc hf
  obtain ⟨p, l, e, R, s, m, args, below, meth, c, Q, c0, s0⟩ := M
  obtain ⟨hx, hb, hml, hown, hts, hX, hG, hlk, hin, hsh, hroom, hfr, htr, htab, hscr⟩ := N
  obtain ⟨pc', lo, st, h⟩ := g
  obtain rfl : pc' = pc := hpc
  obtain ⟨v, x, q, st2, n, f, rfl, hge, hq, hxn, hn1, htv, rfl⟩ := i_xast hf
  refine ⟨_, rfl, fun hcF hsF k => ?_⟩
  intro H ls locs cells slots hH hl hc hs
  have hz : e_sz h ≤ 1024 := hH.2.1
  obtain ⟨w, rfl⟩ := e_typ_i (Or.inr rfl) htv
  obtain ⟨i1, i2⟩ := e_ix hG hxn hn1
  refine va_bast (D := gD G) hx hb hX.1 hH.1 (e_D hG hz) hH.2.2 q 1 (by rw [cW_at hq, hge, cE_byte]) rfl i1 hd (fun H1 locs1 hP1 hD1 hS1 => ?_)
  refine k H1 ls locs1 cells slots ⟨?_, hz, hS1⟩ hl hc hs
  show va_P (gD G) vwCl (cW G (e_set h q (101, n, e_up f x (.inl w)))) H1
  rw [cW_set hq hz, cE_byte, cI_up]
  rw [i2, e_bnar hG htv] at hP1
  exact hP1
theorem i_aast {a b c9 : Nat} {E : eE} {B : eB} {pc : Nat} {lo : List (Nat × eV)} {st : List eV} {h : eH} {r : eG ⊕ eO} (hf : f_aast a b c9 E B (pc, lo, st, h) = some r) : ∃ v x q st2 n f n2 f2, st = .inr (.inr (v + 1)) :: .inl x :: .inr (.inr (q + 1)) :: st2 ∧ e_get h q = (103, n, f) ∧ e_get h v = (1, n2, f2) ∧ q < e_sz h ∧ v < e_sz h ∧ x < n ∧ n ≤ 1000000 ∧ r = .inl (pc + 1, lo, st2, e_set h q (103, n, e_up f x (.inr (.inr (v + 1))))) := by
  unfold f_aast at hf
  split at hf
  · rename_i p9 l9 v x q st2 h9 heq
    cases heq
    generalize hge : e_get h q = z at hf
    obtain ⟨k, n, f⟩ := z
    generalize hgv : e_get h v = z2 at hf
    obtain ⟨k2, n2, f2⟩ := z2
    dsimp only at hf
    cases hg : (Nat.ble (q + 1) (e_sz h) && Nat.ble q 1023 && Nat.ble (v + 1) (e_sz h) && Nat.ble v 1023 && Nat.beq k 103 && Nat.beq k2 1 && Nat.ble (x + 1) n && Nat.ble n 1000000) with
    | false => rw [hg] at hf; cases hf
    | true =>
      rw [hg] at hf
      cases hf
      simp only [Bool.and_eq_true] at hg
      obtain ⟨⟨⟨⟨⟨⟨⟨h1, h2⟩, h3⟩, h4⟩, h5⟩, h6⟩, h7⟩, h8⟩ := hg
      have e : k = 103 := Nat.eq_of_beq_eq_true h5
      have e2 : k2 = 1 := Nat.eq_of_beq_eq_true h6
      subst e
      subst e2
      exact ⟨v, x, q, st2, n, f, n2, f2, rfl, hge, hgv, Nat.le_of_ble_eq_true h1, Nat.le_of_ble_eq_true h3, Nat.le_of_ble_eq_true h7, Nat.le_of_ble_eq_true h8, rfl⟩
  · cases hf
theorem s_aast {y pc a b c9 : Nat} (hd : decode (cb y) pc = .ok (.aastore, 1)) : e_P y pc (f_aast a b c9) := by
  intro G B M d out E g r N hpc hf
  obtain ⟨p, l, e, R, s, m, args, below, meth, c, Q, c0, s0⟩ := M
  obtain ⟨hx, hb, hml, hown, hts, hX, hG, hlk, hin, hsh, hroom, hfr, htr, htab, hscr⟩ := N
  obtain ⟨pc', lo, st, h⟩ := g
  obtain rfl : pc' = pc := hpc
  obtain ⟨v, x, q, st2, n, f, n2, f2, rfl, hge, hgv, hq, hv, hxn, hn1, rfl⟩ := i_aast hf
  refine ⟨_, rfl, fun hcF hsF k => ?_⟩
  intro H ls locs cells slots hH hl hc hs
  have hz : e_sz h ≤ 1024 := hH.2.1
  obtain ⟨i1, i2⟩ := e_ix hG hxn hn1
  refine va_astq (D := gD G) (r := (RX1, TX1, 4)) hx hb hX.1 hH.1 (e_D hG hz) hH.2.2 q 3 v 1 (by rw [cW_at hq, hge, cE_code]) rfl (by rw [cW_at hv, hgv, cE_obj (by decide)]) rfl i1 hd (fun H1 locs1 hP1 hD1 hS1 => ?_)
  refine k H1 ls locs1 cells slots ⟨?_, hz, hS1⟩ hl hc hs
  show va_P (gD G) vwCl (cW G (e_set h q (103, n, e_up f x (.inr (.inr (v + 1)))))) H1
  rw [cW_set hq hz, cE_code, cO_up]
  rw [i2] at hP1
  exact hP1
theorem i_alen {a b c9 : Nat} {E : eE} {B : eB} {pc : Nat} {lo : List (Nat × eV)} {st : List eV} {h : eH} {r : eG ⊕ eO} (hf : f_alen a b c9 E B (pc, lo, st, h) = some r) : ∃ q st2 t n f, st = .inr (.inr (q + 1)) :: st2 ∧ e_get h q = (t, n, f) ∧ q < e_sz h ∧ 100 ≤ t ∧ t ≤ 104 ∧ n ≤ 1000000 ∧ r = .inl (pc + 1, lo, .inl n :: st2, h) := by
  unfold f_alen at hf
  split at hf
  · rename_i p9 l9 q st2 h9 heq
    cases heq
    generalize hge : e_get h q = z at hf
    obtain ⟨k, n, f⟩ := z
    dsimp only at hf
    cases hg : (Nat.ble (q + 1) (e_sz h) && Nat.ble q 1023 && Nat.ble 100 k && Nat.ble k 104 && Nat.ble n 1000000) with
    | false => rw [hg] at hf; cases hf
    | true =>
      rw [hg] at hf
      cases hf
      simp only [Bool.and_eq_true] at hg
      exact ⟨q, st2, k, n, f, rfl, hge, Nat.le_of_ble_eq_true hg.1.1.1.1, Nat.le_of_ble_eq_true hg.1.1.2, Nat.le_of_ble_eq_true hg.1.2, Nat.le_of_ble_eq_true hg.2, rfl⟩
  · cases hf
theorem s_alen {y pc a b c9 : Nat} (hd : decode (cb y) pc = .ok (.arraylength, 1)) : e_P y pc (f_alen a b c9) := by
  intro G B M d out E g r N hpc hf
  obtain ⟨p, l, e, R, s, m, args, below, meth, c, Q, c0, s0⟩ := M
  obtain ⟨hx, hb, hml, hown, hts, hX, hG, hlk, hin, hsh, hroom, hfr, htr, htab, hscr⟩ := N
  obtain ⟨pc', lo, st, h⟩ := g
  obtain rfl : pc' = pc := hpc
  obtain ⟨q, st2, t, n, f, rfl, hge, hq, ht1, ht2, hn1, rfl⟩ := i_alen hf
  refine ⟨_, rfl, fun hcF hsF k => ?_⟩
  intro H ls locs cells slots hH hl hc hs
  have hv : Int32.ofNat n = giv G n := (hG.2.1 n (by omega)).symm
  have key : ∀ (t0 : Nat) (ty : FieldType) (x : (Nat → Int32) ⊕ (Nat → Int64) ⊕ (Nat → UInt32) ⊕ (Nat → UInt64) ⊕ (Nat → Option Nat)), (gT G)[t0]? = some (gA G t, ty) → cE G (t, n, f) = .inl (gA G t, n, x) → W p l e R s m args below meth c H locs cells slots Q (F0 m pc' ls (.ref (gad G q) :: st2.map (cV G))) := fun t0 ty x h1 h2 =>
    va_alen (D := gD G) hx hb hX.1 hH.1 q t0 (x := (n, x)) (by rw [cW_at hq, hge, h2]) h1 hv hd (k H ls locs cells slots hH hl hc hs)
  have : t = 100 ∨ t = 101 ∨ t = 102 ∨ t = 103 ∨ t = 104 := by omega
  rcases this with rfl | rfl | rfl | rfl | rfl
  · exact key 0 _ _ rfl cE_int
  · exact key 1 _ _ rfl cE_byte
  · exact key 2 _ _ rfl cE_long
  · exact key 3 _ _ rfl cE_code
  · exact key 4 _ _ rfl cE_rows
