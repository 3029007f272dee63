/-! ===== the engine: what is to be shown of an instruction ===== -/
def va_AOA (ty : FieldType) (U : State) : Prop := (Cond.arrayOver (.array ty)).before #[] U = true
theorem va_AOA.use {ty : FieldType} {A : Array Value} {U : State} (h : va_AOA ty U) : (Cond.arrayOver (.array ty)).before A U = true := h
def GW : List Cond := lw_tbl.filter goodWord
def e_w (i : Nat) (w : Cond) : Bool := decide (lw_tbl[i]? = some w) && goodWord w
theorem e_w_in {i : Nat} {w : Cond} (h : e_w i w = true) : w ∈ GW := by
  unfold e_w at h
  simp only [Bool.and_eq_true, decide_eq_true_eq] at h
  exact List.mem_filter.mpr ⟨List.mem_of_getElem? h.1, h.2⟩
theorem GW_good {w : Cond} (h : w ∈ GW) : w ∈ GW ∧ ((w.onTables && w.keeps) = true ∨ ∃ ty, w = .arrayClass ty) := ⟨h, good_of_word (List.mem_filter.mp h).2⟩
def e_exn (k : Nat) : String := match k with
  | 0 => "java/util/NoSuchElementException"
  | _ => "java/lang/IllegalArgumentException"
/-- words that no good word is: what is caught, nest mates' constructors -/
def e_nw : List Cond := [.castable "java/util/NoSuchElementException" "java/util/NoSuchElementException", .castable "java/lang/IllegalArgumentException" "java/lang/IllegalArgumentException",
  .methodLinkNest "IslandHall" 19 ⟨"IslandHall$Plan", "<init>", "()V"⟩ "IslandHall", .methodLinkNest "IslandHall" 26 ⟨"IslandHall$Code", "<init>", "()V"⟩ "IslandHall", .methodLinkNest "IslandHall$Parser" 11 ⟨"IslandHall$Plan", "<init>", "()V"⟩ "IslandHall", .methodLinkNest "IslandHall$Realm" 24 ⟨"IslandHall$Walk", "<init>", "()V"⟩ "IslandHall", .methodLinkNest "IslandHall" 77 ⟨"IslandHall$Subsets", "<init>", "()V"⟩ "IslandHall",
  .fieldLinkNest "IslandHall$Plan" 63 "IslandHall" "KIND_OF_CODE" "[I" "IslandHall", .fieldLinkNest "IslandHall$Realm" 123 "IslandHall" "KIND_OF_CODE" "[I" "IslandHall", .fieldLinkNest "IslandHall$Walk" 54 "IslandHall" "KIND_OF_CODE" "[I" "IslandHall",
  .declares ⟨"java/lang/RuntimeException", "<init>", "(Ljava/lang/String;)V"⟩, .declares ⟨"java/lang/Exception", "<init>", "(Ljava/lang/String;)V"⟩, .declares ⟨"java/lang/Throwable", "<init>", "(Ljava/lang/String;)V"⟩]
/-- statics and strings that lay there before -/
def e_XS (G : GT) (U : State) : Prop :=
  va_Z "IslandHall" "KIND_OF_CODE" "[I" (.ref (gad G 4095)) (gF G) U (gH G) ∧ va_T .int (gad G 4095) 6 (fun j => .int (nI (e_kind j))) (gF G) U (gH G) ∧
  (va_Z "java/lang/String" "COMPACT_STRINGS" "Z" (.int 1) (gF G) U (gH G) ∧ va_Zq "jdk/internal/util/Preconditions" "SIOOBE_FORMATTER" "Ljava/util/function/BiFunction;" (gF G) U (gH G)) ∧ vk_S 36 lenS bytS (fun i => gad G (4097 + i)) (fun i => gad G (4300 + i)) (gF G) U (gH G)
/-- what the tables say beside the good words -/
def e_X (G : GT) (U : State) : Prop :=
  va_K (gD G) vwCl (gT G) U ∧ va_AO "IslandHall$Code" U ∧ va_AOA .long U ∧
  vx_Zq Bundle.tN "UNASSIGNED_STACK" Bundle.steD (gF G) U (gH G) ∧ vx_Zq Bundle.tN "SUPPRESSED_SENTINEL" Bundle.listD (gF G) U (gH G) ∧
  (∀ (i : Nat) (q : String × Nat × String), e_strs[i]? = some q → vk_R q.1 q.2.1 q.2.2 (gad G (4097 + i)) U) ∧
  (∀ w ∈ e_nw, va_Nw w U) ∧ e_XS G U
/-- the machine at a method's body: .., its end, cells and slots counted when it began -/
abbrev MT : Type := Program × Launch × Env × Room × State × MethodId × Array Value × List Frame × Method × Code × (State → Prop) × Nat × Nat
def e_W (G : GT) (M : MT) (y : Nat) (g : eG) : Prop := match M with
  | (p, l, e, R, s, m, args, below, meth, c, Q, c0, s0) => ∀ (H : Heap) (ls : Array Slot) (locs : List Loc) (cells slots : Nat), e_HR G s g.2.2.2 H locs → lv_has ls (ml y) (cLo G g.2.1) → cells + c0 = e_cn g.2.2.2 → slots + s0 = e_sl g.2.2.2 →
      W p l e R s m args below meth c H locs cells slots Q (F0 m g.1 ls (g.2.2.1.map (cV G)))
def e_N (G : GT) (B : eB) (M : MT) (y d : Nat) (out : eO) : Prop := match M with
  | (p, l, _, R, s, m, args, _, meth, c, _, c0, s0) =>
    p.tables.exec = Jvm.exec ∧ c.code = cb y ∧ c.maxLocals = ml y ∧ s.vm.findClass (nm y).cls = some m.cls ∧ (∀ w ∈ GW, w.before args s = true) ∧ e_X G s ∧ e_GOK G B ∧ meth.locks = false ∧ ((nm y).name = "<init>" → meth.name = "<init>") ∧
    (gb G ≤ s.heap.size ∧ s.heap.size ≤ gb G + c0 ∧ ∀ q, q < gb G → s.heap[q]? = (gH G)[q]?) ∧ (e_cn out.2.2 ≤ R.cells + c0 ∧ e_sl out.2.2 ≤ R.slots + s0) ∧ (d + 11 ≤ R.frames ∧ 60 * (d + 1) + 200 ≤ R.locals) ∧ l.stackTraces = false ∧ c.exceptionTable.toList = tableOf (mh y) ∧
    (y = 0 → (B 0).2 = 1 → gad G 4096 < gb G ∧ ∃ xs : Nat → Int32, va_X (gad G 4096) (B 0).1 xs s (gH G) ∧ ∀ j, j < 4096 → giv G (1099511627776 + j) = xs j)
/-- an instruction that neither calls nor ends -/
def e_P (y pc : Nat) (f : eE → eB → eG → eR) : Prop := ∀ (G : GT) (B : eB) (M : MT) (d : Nat) (out : eO) (E : eE) (g : eG) (r : eG ⊕ eO), e_N G B M y d out → g.1 = pc → f E B g = some r →
  ∃ g2, r = .inl g2 ∧ (e_cn g2.2.2.2 ≤ e_cn out.2.2 → e_sl g2.2.2.2 ≤ e_sl out.2.2 → e_W G M y g2 → e_W G M y g)
/-! constants -/
theorem s_iconst {y pc a b c0 : Nat} (ha : a < 4294967296) (hv : Int32.ofInt ((b : Int) - 1) = nI a) (hd : decode (cb y) pc = .ok (.iconst ((b : Int) - 1), 1)) : e_P y pc (f_ipush 1 a b c0) := by
  intro G B M d out E g r N hpc hf
  obtain ⟨p, l, e, R, s, m, args, below, meth, c, Q, c0, s0⟩ := M
  obtain ⟨hx, hb, hml, hown, hts, hX, hG, -⟩ := N
  obtain ⟨pc', lo, st, h⟩ := g
  obtain rfl : pc' = pc := hpc
  cases hf
  refine ⟨_, rfl, fun _ _ k => ?_⟩
  intro H ls locs cells slots hH hl hc hs
  refine lv_iconst hx hb hd hv ?_
  have := k H ls locs cells slots hH hl hc hs
  rw [← hG.2.1 a ha]
  exact this
