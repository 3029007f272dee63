/-! ===== the engine: what its words mean on the machine ===== -/
/-- class numbers and slots, array classes, the first new address, addresses, numbers, the heap at the start -/
abbrev GT : Type := va_G × (Nat → ClassId) × Nat × (Nat → Nat) × (Nat → Int32) × Heap
abbrev gD (G : GT) : va_G := G.1
abbrev gA (G : GT) : Nat → ClassId := G.2.1
abbrev gb (G : GT) : Nat := G.2.2.1
abbrev gad (G : GT) : Nat → Nat := G.2.2.2.1
abbrev giv (G : GT) : Nat → Int32 := G.2.2.2.2.1
abbrev gH (G : GT) : Heap := G.2.2.2.2.2
def cI (G : GT) (v : eV) : Int32 := match v with
  | .inl n => giv G n
  | _ => 0
def cL (v : eV) : Int64 := match v with
  | .inr (.inl n) => lN n
  | _ => 0
def cO (G : GT) (v : eV) : Option Nat := match v with
  | .inr (.inr (k + 1)) => some (gad G k)
  | _ => none
def cV (G : GT) (v : eV) : Value := match v with
  | .inl n => .int (giv G n)
  | .inr (.inl n) => .long (lN n)
  | .inr (.inr 0) => .null
  | .inr (.inr (k + 1)) => .ref (gad G k)
def cE (G : GT) (x : eC) : va_E :=
  if x.1 < 100 then .inr (x.1, (List.range x.2.1).map fun j => cV G (x.2.2 j))
  else if x.1 = 102 then .inl (gA G 102, x.2.1, .inr (.inl fun j => cL (x.2.2 j)))
  else if x.1 = 103 then .inl (gA G 103, x.2.1, .inr (.inr (.inr (.inr fun j => cO G (x.2.2 j)))))
  else if x.1 = 104 then .inl (gA G 104, x.2.1, .inr (.inr (.inr (.inr fun j => cO G (x.2.2 j)))))
  else .inl (gA G x.1, x.2.1, .inl fun j => cI G (x.2.2 j))
noncomputable def cW (G : GT) (h : eH) : va_W := (List.range (e_sz h)).map fun k => (gad G k, cE G (e_get h k))
def cLo (G : GT) (lo : List (Nat × eV)) : List (Nat × Value) := lo.map fun q => (q.1, cV G q.2)
abbrev gT (G : GT) : List (ClassId × FieldType) := [(gA G 100, .int), (gA G 101, .byte), (gA G 102, .long), (gA G 103, .object "IslandHall$Code"), (gA G 104, .array .long)]
theorem cW_at {G : GT} {h : eH} {k : Nat} (hk : k < e_sz h) : (cW G h)[k]? = some (gad G k, cE G (e_get h k)) := by
  unfold cW
  rw [List.getElem?_map, List.getElem?_range hk]
  rfl
theorem cW_len (G : GT) (h : eH) : (cW G h).length = e_sz h := by simp [cW]
theorem cW_set {G : GT} {h : eH} {k : Nat} {x : eC} (hk : k < e_sz h) (hz : e_sz h ≤ 1024) : cW G (e_set h k x) = (cW G h).set k (gad G k, cE G x) := by
  apply List.ext_getElem?
  intro j
  by_cases hj : j < e_sz h
  · rw [cW_at (h := e_set h k x) hj, e_get_set (by omega) (by omega)]
    by_cases e : j = k
    · subst e
      rw [if_pos rfl, List.getElem?_set_self (by rw [cW_len]; exact hj)]
    · rw [if_neg e, List.getElem?_set_ne (Ne.symm e), cW_at hj]
  · rw [List.getElem?_eq_none (by rw [cW_len]; exact Nat.le_of_not_lt hj), List.getElem?_eq_none (by rw [List.length_set, cW_len]; exact Nat.le_of_not_lt hj)]
theorem cW_push {G : GT} {h : eH} {n : Nat} {x : eC} (hz : e_sz h < 1024) : cW G (e_push h x n) = cW G h ++ [(gad G (e_sz h), cE G x)] := by
  have e1 : ∀ j, j < e_sz h → e_get (e_push h x n) j = e_get h j := fun j hj => by rw [e_get_push hz (by omega), if_neg (by omega)]
  have e2 : e_get (e_push h x n) (e_sz h) = x := by rw [e_get_push hz hz, if_pos rfl]
  show (List.range (e_sz h + 1)).map (fun k => (gad G k, cE G (e_get (e_push h x n) k))) = _
  have e3 : (List.range (e_sz h)).map (fun k => (gad G k, cE G (e_get (e_push h x n) k))) = cW G h := by
    apply List.map_congr_left
    intro j hj
    rw [e1 j (List.mem_range.mp hj)]
  rw [List.range_succ, List.map_append, e3, List.map_singleton, e2]
theorem cV_cat (G : GT) (v : eV) : ((cV G v).category == 2) = e_wide v := by
  rcases v with n | n | n
  · rfl
  · rfl
  · cases n <;> rfl
theorem cV_cat1 {G : GT} {v : eV} (h : e_wide v = false) : (cV G v).category = 1 := by
  rcases v with n | n | n
  · rfl
  · cases h
  · cases n <;> rfl
theorem cLo_lk {G : GT} : ∀ {lo : List (Nat × eV)} {i : Nat} {v : eV}, e_lk lo i = some v → ∃ k : Nat, (cLo G lo)[k]? = some (i, cV G v) := by
  intro lo
  induction lo with
  | nil => intro i v h; cases h
  | cons q r ih =>
    intro i v h
    obtain ⟨j, w⟩ := q
    have h' : cond (Nat.beq j i) (some w) (e_lk r i) = some v := h
    cases hb : Nat.beq j i with
    | true =>
      rw [hb] at h'
      cases h'
      have e : j = i := Nat.eq_of_beq_eq_true hb
      subst e
      exact ⟨0, rfl⟩
    | false =>
      rw [hb] at h'
      obtain ⟨k, hk⟩ := ih h'
      exact ⟨k + 1, hk⟩
theorem e_beq (a b : Nat) : Nat.beq a b = (a == b) := by
  rw [Bool.eq_iff_iff, beq_iff_eq]
  exact ⟨Nat.eq_of_beq_eq_true, fun h => by rw [h]; exact Nat.beq_refl b⟩
theorem cLo_st1 (G : GT) (lo : List (Nat × eV)) (i : Nat) (v : eV) : cLo G (e_st1 lo i v) = (i, cV G v) :: (cLo G lo).filter (fun q => !(q.1 == i) && !(q.1 + 1 == i && q.2.category == 2)) := by
  unfold cLo e_st1
  rw [List.map_cons, List.filter_map]
  congr 2
  apply List.filter_congr
  intro q _
  show (!(Nat.beq q.1 i) && !(Nat.beq (q.1 + 1) i && e_wide q.2)) = (!(q.1 == i) && !(q.1 + 1 == i && ((cV G q.2).category == 2)))
  rw [cV_cat, e_beq, e_beq]
theorem cLo_st2 (G : GT) (lo : List (Nat × eV)) (i : Nat) (v : eV) : cLo G (e_st2 lo i v) = (i, cV G v) :: (cLo G lo).filter (fun q => !(q.1 == i) && (!(q.1 == i + 1) && !(q.1 + 1 == i && q.2.category == 2))) := by
  unfold cLo e_st2
  rw [List.map_cons, List.filter_map]
  congr 2
  apply List.filter_congr
  intro q _
  show (!(Nat.beq q.1 i) && (!(Nat.beq q.1 (i + 1)) && !(Nat.beq (q.1 + 1) i && e_wide q.2))) = (!(q.1 == i) && (!(q.1 == i + 1) && !(q.1 + 1 == i && ((cV G q.2).category == 2))))
  rw [cV_cat, e_beq, e_beq, e_beq]
theorem cLo_args (G : GT) : ∀ (vs : List eV) (i : Nat), cLo G (e_args i vs) = lv_args i (vs.map (cV G)) := by
  intro vs
  induction vs with
  | nil => intro i; rfl
  | cons v r ih =>
    intro i
    show (i, cV G v) :: cLo G (e_args (i + cond (e_wide v) 2 1) r) = lv_args i (cV G v :: r.map (cV G))
    rw [ih]
    show _ = (i, cV G v) :: lv_args (if (cV G v).category = 2 then i + 2 else i + 1) (r.map (cV G))
    congr 2
    rcases v with n | n | n
    · rfl
    · rfl
    · cases n <;> rfl
theorem e_cat_eq (G : GT) : ∀ (vs : List eV), ((vs.map (cV G)).map fun v => v.category).sum = e_cat vs := by
  intro vs
  induction vs with
  | nil => rfl
  | cons v r ih =>
    show (cV G v).category + ((r.map (cV G)).map fun v => v.category).sum = cond (e_wide v) 2 1 + e_cat r
    rw [ih]
    congr 1
    rcases v with n | n | n
    · rfl
    · rfl
    · cases n <;> rfl
/-- what the numbers, addresses and bounds keep -/
def e_GOK (G : GT) (B : eB) : Prop :=
  (∀ k, k < 2048 → gad G k = gb G + k) ∧ (∀ n, n < 4294967296 → giv G n = nI n) ∧ (∀ n, 4294967296 ≤ n → (B n).1 ≤ e_K (giv G n) ∧ e_K (giv G n) ≤ (B n).2) ∧ (gH G).size = gb G ∧
  True
abbrev gF (G : GT) : Nat → Prop := fun q => gb G ≤ q
/-- the machine's heap is the engine's -/
def e_BW (G : GT) (h : eH) (H : Heap) : Prop := va_P (gD G) vwCl (cW G h) H ∧ e_sz h ≤ 1024 ∧ ∀ q, q < gb G → H[q]? = (gH G)[q]?
def e_HR (G : GT) (s : State) (h : eH) (H : Heap) (locs : List Loc) : Prop := va_P (gD G) vwCl (cW G h) H ∧ e_sz h ≤ 1024 ∧ va_S (gF G) s.heap H locs
theorem e_in {G : GT} {B : eB} (hG : e_GOK G B) (x : Nat) : (e_rng B x).1 ≤ e_K (giv G x) ∧ e_K (giv G x) ≤ (e_rng B x).2 := by
  unfold e_rng l32
  cases h : Nat.ble x 4294967295 with
  | true =>
    have hx : x < 4294967296 := Nat.lt_succ_of_le (Nat.le_of_ble_eq_true h)
    rw [hG.2.1 x hx, e_K_nI hx]
    exact ⟨Nat.le_refl _, Nat.le_refl _⟩
  | false =>
    have hx : ¬ x ≤ 4294967295 := fun q => by rw [Nat.ble_eq_true_of_le q] at h; cases h
    exact hG.2.2.1 x (by omega)
theorem e_lt_s {G : GT} {u v : Nat × Nat} {x y : Int32} {b : Bool} (h : e_lt u v = some b) (hu : u.1 ≤ e_K x ∧ e_K x ≤ u.2) (hv : v.1 ≤ e_K y ∧ e_K y ≤ v.2) : (x < y ↔ b = true) := by
  unfold e_lt at h
  cases h1 : Nat.ble (u.2 + 1) v.1 with
  | true =>
    rw [h1] at h
    cases h
    have := Nat.le_of_ble_eq_true h1
    rw [e_K_lt]
    exact ⟨fun _ => rfl, fun _ => by omega⟩
  | false =>
    rw [h1] at h
    cases h2 : Nat.ble v.2 u.1 with
    | true =>
      rw [h2] at h
      cases h
      have := Nat.le_of_ble_eq_true h2
      rw [e_K_lt]
      exact ⟨fun q => by omega, fun q => by cases q⟩
    | false =>
      rw [h2] at h
      cases h
theorem e_eq_s {u v : Nat × Nat} {x y : Int32} {b : Bool} (h : e_eq u v = some b) (hu : u.1 ≤ e_K x ∧ e_K x ≤ u.2) (hv : v.1 ≤ e_K y ∧ e_K y ≤ v.2) : (x = y ↔ b = true) := by
  unfold e_eq at h
  cases h1 : (Nat.beq u.1 u.2 && Nat.beq v.1 v.2 && Nat.beq u.1 v.1) with
  | true =>
    rw [h1] at h
    cases h
    simp only [Bool.and_eq_true] at h1
    have a1 := Nat.eq_of_beq_eq_true h1.1.1
    have a2 := Nat.eq_of_beq_eq_true h1.1.2
    have a3 := Nat.eq_of_beq_eq_true h1.2
    rw [e_K_eq]
    exact ⟨fun _ => rfl, fun _ => by omega⟩
  | false =>
    rw [h1] at h
    cases h2 : (Nat.ble (u.2 + 1) v.1 || Nat.ble (v.2 + 1) u.1) with
    | true =>
      rw [h2] at h
      cases h
      simp only [Bool.or_eq_true] at h2
      rw [e_K_eq]
      refine ⟨fun q => ?_, fun q => by cases q⟩
      rcases h2 with h2 | h2
      · have := Nat.le_of_ble_eq_true h2
        omega
      · have := Nat.le_of_ble_eq_true h2
        omega
    | false =>
      rw [h2] at h
      cases h
