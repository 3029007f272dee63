/-! ===== checks of the start (written by wip/layer3/startq.py) ===== -/
def flS : List Cond := flatC (Jvm.Cond.and given_1 narrow_1)
def tmS (i : Nat) : Term := match e_strs[i]? with
  | some q => .string q.1 q.2.1
  | none => .arg 0
def ofS : List Nat := [358, 477, 257, 505, 541, 299, 459, 284, 338, 521, 48, 407, 424, 374, 206, 212, 218, 167, 175, 190, 198, 182, 160, 92, 144, 152, 239, 248, 226, 233, 82, 99, 109, 117, 127, 136]
def fvS (i : Nat) : Term := .field (tmS i) "java/lang/String" "value" "[B"
def chS (i : Nat) : Bool := decide (flS[ofS.getD i 0]? = some (.exactly (tmS i) "java/lang/String")) && decide (flS[ofS.getD i 0 + 1]? = some (.eq (.field (tmS i) "java/lang/String" "coder" "B") (.int 0))) && decide (flS[ofS.getD i 0 + 2]? = some (.arrayOf (fvS i) .byte)) && decide (flS[ofS.getD i 0 + 3]? = some (.eq (.length (fvS i)) (.int (Int32.ofNat (lenS.getD i 0))))) && (List.range (lenS.getD i 0)).all (fun j => decide (flS[ofS.getD i 0 + 4 + j]? = some (.eq (.elem (fvS i) (.int (Int32.ofNat j))) (.int ((bytS.getD i []).getD j 0)))))
theorem ck_str0 : chS 0 = true ∧ chS 1 = true ∧ chS 2 = true := by decide +kernel
theorem ck_str1 : chS 3 = true ∧ chS 4 = true ∧ chS 5 = true := by decide +kernel
theorem ck_str2 : chS 6 = true ∧ chS 7 = true ∧ chS 8 = true := by decide +kernel
theorem ck_str3 : chS 9 = true ∧ chS 10 = true ∧ chS 11 = true := by decide +kernel
theorem ck_str4 : chS 12 = true ∧ chS 13 = true ∧ chS 14 = true := by decide +kernel
theorem ck_str5 : chS 15 = true ∧ chS 16 = true ∧ chS 17 = true := by decide +kernel
theorem ck_str6 : chS 18 = true ∧ chS 19 = true ∧ chS 20 = true := by decide +kernel
theorem ck_str7 : chS 21 = true ∧ chS 22 = true ∧ chS 23 = true := by decide +kernel
theorem ck_str8 : chS 24 = true ∧ chS 25 = true ∧ chS 26 = true := by decide +kernel
theorem ck_str9 : chS 27 = true ∧ chS 28 = true ∧ chS 29 = true := by decide +kernel
theorem ck_str10 : chS 30 = true ∧ chS 31 = true ∧ chS 32 = true := by decide +kernel
theorem ck_str11 : chS 33 = true ∧ chS 34 = true ∧ chS 35 = true := by decide +kernel
theorem ck_strs : ∀ i, i < 36 → chS i = true := by
  intro i hi
  match i, hi with
  | 0, _ => exact ck_str0.1
  | 1, _ => exact ck_str0.2.1
  | 2, _ => exact ck_str0.2.2
  | 3, _ => exact ck_str1.1
  | 4, _ => exact ck_str1.2.1
  | 5, _ => exact ck_str1.2.2
  | 6, _ => exact ck_str2.1
  | 7, _ => exact ck_str2.2.1
  | 8, _ => exact ck_str2.2.2
  | 9, _ => exact ck_str3.1
  | 10, _ => exact ck_str3.2.1
  | 11, _ => exact ck_str3.2.2
  | 12, _ => exact ck_str4.1
  | 13, _ => exact ck_str4.2.1
  | 14, _ => exact ck_str4.2.2
  | 15, _ => exact ck_str5.1
  | 16, _ => exact ck_str5.2.1
  | 17, _ => exact ck_str5.2.2
  | 18, _ => exact ck_str6.1
  | 19, _ => exact ck_str6.2.1
  | 20, _ => exact ck_str6.2.2
  | 21, _ => exact ck_str7.1
  | 22, _ => exact ck_str7.2.1
  | 23, _ => exact ck_str7.2.2
  | 24, _ => exact ck_str8.1
  | 25, _ => exact ck_str8.2.1
  | 26, _ => exact ck_str8.2.2
  | 27, _ => exact ck_str9.1
  | 28, _ => exact ck_str9.2.1
  | 29, _ => exact ck_str9.2.2
  | 30, _ => exact ck_str10.1
  | 31, _ => exact ck_str10.2.1
  | 32, _ => exact ck_str10.2.2
  | 33, _ => exact ck_str11.1
  | 34, _ => exact ck_str11.2.1
  | 35, _ => exact ck_str11.2.2
  | i + 36, hi => omega
theorem ck_dis : (List.range 36).all (fun i => (List.range 36).all fun j => decide (i = j) || decide (Int32.ofNat (lenS.getD i 0) ≠ Int32.ofNat (lenS.getD j 0)) || (decide (lenS.getD i 0 = lenS.getD j 0) && (List.range (lenS.getD i 0)).any fun x => decide ((bytS.getD i []).getD x 0 ≠ (bytS.getD j []).getD x 0))) = true := by decide +kernel
theorem w_strR : (List.range 36).all (fun i => match e_strs[i]? with
    | some q => lw_tbl.contains (Cond.stringRef q.1 q.2.1 q.2.2)
    | none => false) = true := by decide +kernel
theorem w_nw : ∀ w ∈ e_nw, w ∈ lw_tbl ∧ w.onTables = true := by decide +kernel
theorem w_over : Cond.arrayOver (.object "IslandHall$Code") ∈ lw_tbl ∧ Cond.arrayOver (.array .long) ∈ lw_tbl := by decide +kernel
theorem w_lays : Cond.laysStatic Bundle.tN "UNASSIGNED_STACK" Bundle.steD ∈ lw_tbl ∧ Cond.laysStatic Bundle.tN "SUPPRESSED_SENTINEL" Bundle.listD ∈ lw_tbl ∧ Cond.initialized Bundle.tN ∈ lw_tbl := by decide +kernel
theorem w_isr : Cond.isRef (.static Bundle.tN "UNASSIGNED_STACK" Bundle.steD) ∈ flatC (Jvm.Cond.and given_1 narrow_1) ∧ Cond.isRef (.static Bundle.tN "SUPPRESSED_SENTINEL" Bundle.listD) ∈ flatC (Jvm.Cond.and given_1 narrow_1) := by decide +kernel
theorem w_kind : flS[5]? = some (.arrayOf (.static "IslandHall" "KIND_OF_CODE" "[I") .int) ∧ flS[6]? = some (.eq (.length (.static "IslandHall" "KIND_OF_CODE" "[I")) (.int (Int32.ofNat 6))) ∧ flS[15]? = some (.eq (.static "java/lang/String" "COMPACT_STRINGS" "Z") (.int 1)) ∧ flS[16]? = some (.isRef (.static "jdk/internal/util/Preconditions" "SIOOBE_FORMATTER" "Ljava/util/function/BiFunction;")) := by decide +kernel
theorem w_kinds : ∀ j, j < 6 → flS[7 + j]? = some (.eq (.elem (.static "IslandHall" "KIND_OF_CODE" "[I") (.int (Int32.ofNat j))) (.int (nI (e_kind j)))) := by decide +kernel
theorem w_st : Cond.laysStatic "IslandHall" "KIND_OF_CODE" "[I" ∈ lw_tbl ∧ Cond.initialized "IslandHall" ∈ lw_tbl ∧ Cond.laysStatic "java/lang/String" "COMPACT_STRINGS" "Z" ∈ lw_tbl ∧ Cond.initialized "java/lang/String" ∈ lw_tbl ∧ Cond.laysStatic "jdk/internal/util/Preconditions" "SIOOBE_FORMATTER" "Ljava/util/function/BiFunction;" ∈ lw_tbl ∧ Cond.initialized "jdk/internal/util/Preconditions" ∈ lw_tbl := by decide +kernel
/-! the heap behind the constructors -/
def lkb (lo : List (Nat × eV)) (i k : Nat) : Bool := match e_lk lo i with
  | some (.inr (.inr n)) => Nat.beq n k
  | _ => false
def lki (lo : List (Nat × eV)) (i k : Nat) : Bool := match e_lk lo i with
  | some (.inl n) => Nat.beq n k
  | _ => false
noncomputable def ckL (o : Option eG) : Bool := match o with
  | some (_, lo, _, h) => lkb lo 0 4097 && lkb lo 1 1 && lkb lo 2 740 && lkb lo 3 770 && lki lo 4 0 && decide (und ((e_get h 739).2.2 13) = 0) && decide (und ((e_get h 739).2.2 21) = 0) && decide (und ((e_get h 739).2.2 27) = 0) && decide (und ((e_get h 0).2.2 1) = 0) && decide (und ((e_get h 0).2.2 9) = 0) && decide (und ((e_get h 2).2.2 1) = 0) && decide (und ((e_get h 739).2.2 1) = 0) && decide (und ((e_get h 0).2.2 11) = 0) && decide (und ((e_get h 0).2.2 5) = -1) && decide (und ((e_get h 739).2.2 29) = -1)
  | none => false
set_option maxRecDepth 100000 in
theorem ck_L : ckL oL = true := by decide +kernel
theorem m0_ml : 7 = ml 0 := by decide +kernel
