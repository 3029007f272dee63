/-! ===== written by program (wip/engine2/gen9.py): the rows of the tables ===== -/
abbrev eK : Type := Nat → Nat → Nat → Nat → Nat → Nat → Bool
def k_no : eK := fun _ _ _ _ _ _ => true
def e_PK (f : eF) (k : eK) : Prop := ∀ (y pc d a b c dd : Nat), k y pc a b c dd = true → e_S y pc d (f a b c)
theorem tt_no : e_PK f_no k_no := fun _ _ _ _ _ _ _ _ => s_no (a := _) (b := _) (c9 := _)
def k_iconst : eK := fun y pc a b c dd => decide (decode (cb y) pc = .ok (.iconst ((b : Int) - 1), 1)) && decide (Int32.ofInt ((b : Int) - 1) = nI a) && Nat.ble a 4294967295
theorem tt_iconst : e_PK (f_ipush 1) k_iconst := by
  intro y pc d a b c dd h
  unfold k_iconst at h
  simp only [Bool.and_eq_true, decide_eq_true_eq] at h
  exact (s_iconst (Nat.lt_succ_of_le (nl h.2)) h.1.2 h.1.1).S
def k_bipush : eK := fun y pc a b c dd => decide (decode (cb y) pc = .ok (.bipush ((b : Int) - 128), 2)) && decide ((Int8.ofInt ((b : Int) - 128)).toInt32 = nI a) && Nat.ble a 4294967295
theorem tt_bipush : e_PK (f_ipush 2) k_bipush := by
  intro y pc d a b c dd h
  unfold k_bipush at h
  simp only [Bool.and_eq_true, decide_eq_true_eq] at h
  exact (s_bipush (Nat.lt_succ_of_le (nl h.2)) h.1.2 h.1.1).S
def k_sipush : eK := fun y pc a b c dd => decide (decode (cb y) pc = .ok (.sipush ((b : Int) - 32768), 3)) && decide ((Int16.ofInt ((b : Int) - 32768)).toInt32 = nI a) && Nat.ble a 4294967295
theorem tt_sipush : e_PK (f_ipush 3) k_sipush := by
  intro y pc d a b c dd h
  unfold k_sipush at h
  simp only [Bool.and_eq_true, decide_eq_true_eq] at h
  exact (s_sipush (Nat.lt_succ_of_le (nl h.2)) h.1.2 h.1.1).S
def k_ldc : eK := fun y pc a b c dd => decide (decode (cb y) pc = .ok (.ldc b, 2)) && e_w dd (.constant (nm y).cls b (nI a)) && Nat.ble a 4294967295
theorem tt_ldc : e_PK (f_ipush 2) k_ldc := by
  intro y pc d a b c dd h
  unfold k_ldc at h
  simp only [Bool.and_eq_true, decide_eq_true_eq] at h
  exact (s_ldc (Nat.lt_succ_of_le (nl h.2)) (e_w_in h.1.2) h.1.1).S
def k_ldcw : eK := fun y pc a b c dd => decide (decode (cb y) pc = .ok (.ldc_w b, 3)) && e_w dd (.constant (nm y).cls b (nI a)) && Nat.ble a 4294967295
theorem tt_ldcw : e_PK (f_ipush 3) k_ldcw := by
  intro y pc d a b c dd h
  unfold k_ldcw at h
  simp only [Bool.and_eq_true, decide_eq_true_eq] at h
  exact (s_ldcw (Nat.lt_succ_of_le (nl h.2)) (e_w_in h.1.2) h.1.1).S
def k_lconst : eK := fun y pc a b c dd => decide (decode (cb y) pc = .ok (.lconst (Fin.ofNat 2 a), 1)) && Nat.ble a 1
theorem tt_lconst : e_PK (f_lpush 1) k_lconst := by
  intro y pc d a b c dd h
  unfold k_lconst at h
  simp only [Bool.and_eq_true, decide_eq_true_eq] at h
  have ha := nl h.2
  exact (s_lconst (q := Fin.ofNat 2 a) (by show Int64.ofNat (a % 2) = lN a; rw [Nat.mod_eq_of_lt (by omega)]; rfl) h.1).S
def k_ldc2 : eK := fun y pc a b c dd => decide (decode (cb y) pc = .ok (.ldc2_w b, 3)) && e_w dd (.constantLong (nm y).cls b (lN a))
theorem tt_ldc2 : e_PK (f_lpush 3) k_ldc2 := by
  intro y pc d a b c dd h
  unfold k_ldc2 at h
  simp only [Bool.and_eq_true, decide_eq_true_eq] at h
  exact (s_ldc2 (e_w_in h.2) h.1).S
def k_ldcs : eK := fun y pc a b c dd => decide (decode (cb y) pc = .ok (.ldc b, 2)) && Nat.beq a (4097 + c) && (match e_strs[c]? with
  | some q => decide (q.1 = (nm y).cls) && Nat.beq q.2.1 b
  | none => false)
theorem tt_ldcs : e_PK (f_rpush 2) k_ldcs := by
  intro y pc d a b c dd h
  unfold k_ldcs at h
  simp only [Bool.and_eq_true, decide_eq_true_eq] at h
  obtain ⟨⟨h1, h2⟩, h3⟩ := h
  split at h3
  · rename_i q hq
    simp only [Bool.and_eq_true, decide_eq_true_eq] at h3
    obtain ⟨q1, q2, q3⟩ := q
    have e1 : q1 = (nm y).cls := h3.1
    have e2 : q2 = b := nb h3.2
    subst e1
    subst e2
    exact (s_ldcs (nb h2) hq h1).S
  · cases h3
def k_iload_n : eK := fun y pc a b c dd => decide (decode (cb y) pc = .ok (.iload_n (Fin.ofNat 4 a), 1)) && Nat.ble a 3
theorem tt_iload_n : e_PK (f_iload 1) k_iload_n := by
  intro y pc d a b c dd h
  unfold k_iload_n at h
  simp only [Bool.and_eq_true, decide_eq_true_eq] at h
  have ha := nl h.2
  exact (s_iload_n (q := Fin.ofNat 4 a) (by show a % 4 = a; omega) h.1).S
def k_iload : eK := fun y pc a b c dd => decide (decode (cb y) pc = .ok (.iload a, 2))
theorem tt_iload : e_PK (f_iload 2) k_iload := by
  intro y pc d a b c dd h
  unfold k_iload at h
  exact (s_iload (of_decide_eq_true h)).S
def k_lload_n : eK := fun y pc a b c dd => decide (decode (cb y) pc = .ok (.lload_n (Fin.ofNat 4 a), 1)) && Nat.ble a 3
theorem tt_lload_n : e_PK (f_lload 1) k_lload_n := by
  intro y pc d a b c dd h
  unfold k_lload_n at h
  simp only [Bool.and_eq_true, decide_eq_true_eq] at h
  have ha := nl h.2
  exact (s_lload_n (q := Fin.ofNat 4 a) (by show a % 4 = a; omega) h.1).S
def k_lload : eK := fun y pc a b c dd => decide (decode (cb y) pc = .ok (.lload a, 2))
theorem tt_lload : e_PK (f_lload 2) k_lload := by
  intro y pc d a b c dd h
  unfold k_lload at h
  exact (s_lload (of_decide_eq_true h)).S
def k_aload_n : eK := fun y pc a b c dd => decide (decode (cb y) pc = .ok (.aload_n (Fin.ofNat 4 a), 1)) && Nat.ble a 3
theorem tt_aload_n : e_PK (f_aload 1) k_aload_n := by
  intro y pc d a b c dd h
  unfold k_aload_n at h
  simp only [Bool.and_eq_true, decide_eq_true_eq] at h
  have ha := nl h.2
  exact (s_aload_n (q := Fin.ofNat 4 a) (by show a % 4 = a; omega) h.1).S
def k_aload : eK := fun y pc a b c dd => decide (decode (cb y) pc = .ok (.aload a, 2))
theorem tt_aload : e_PK (f_aload 2) k_aload := by
  intro y pc d a b c dd h
  unfold k_aload at h
  exact (s_aload (of_decide_eq_true h)).S
noncomputable def k_istore_n : eK := fun y pc a b c dd => decide (decode (cb y) pc = .ok (.istore_n (Fin.ofNat 4 a), 1)) && Nat.ble a 3 && Nat.ble (a + 1) (ml y)
theorem tt_istore_n : e_PK (f_istore 1) k_istore_n := by
  intro y pc d a b c dd h
  unfold k_istore_n at h
  simp only [Bool.and_eq_true, decide_eq_true_eq] at h
  have ha := nl h.1.2
  exact (s_istore_n (q := Fin.ofNat 4 a) (by show a % 4 = a; omega) (nl h.2) h.1.1).S
noncomputable def k_istore : eK := fun y pc a b c dd => decide (decode (cb y) pc = .ok (.istore a, 2)) && Nat.ble (a + 1) (ml y)
theorem tt_istore : e_PK (f_istore 2) k_istore := by
  intro y pc d a b c dd h
  unfold k_istore at h
  simp only [Bool.and_eq_true, decide_eq_true_eq] at h
  exact (s_istore (nl h.2) h.1).S
noncomputable def k_lstore_n : eK := fun y pc a b c dd => decide (decode (cb y) pc = .ok (.lstore_n (Fin.ofNat 4 a), 1)) && Nat.ble a 3 && Nat.ble (a + 1 + 1) (ml y)
theorem tt_lstore_n : e_PK (f_lstore 1) k_lstore_n := by
  intro y pc d a b c dd h
  unfold k_lstore_n at h
  simp only [Bool.and_eq_true, decide_eq_true_eq] at h
  have ha := nl h.1.2
  exact (s_lstore_n (q := Fin.ofNat 4 a) (by show a % 4 = a; omega) (nl h.2) h.1.1).S
noncomputable def k_lstore : eK := fun y pc a b c dd => decide (decode (cb y) pc = .ok (.lstore a, 2)) && Nat.ble (a + 1 + 1) (ml y)
theorem tt_lstore : e_PK (f_lstore 2) k_lstore := by
  intro y pc d a b c dd h
  unfold k_lstore at h
  simp only [Bool.and_eq_true, decide_eq_true_eq] at h
  exact (s_lstore (nl h.2) h.1).S
noncomputable def k_astore_n : eK := fun y pc a b c dd => decide (decode (cb y) pc = .ok (.astore_n (Fin.ofNat 4 a), 1)) && Nat.ble a 3 && Nat.ble (a + 1) (ml y)
theorem tt_astore_n : e_PK (f_astore 1) k_astore_n := by
  intro y pc d a b c dd h
  unfold k_astore_n at h
  simp only [Bool.and_eq_true, decide_eq_true_eq] at h
  have ha := nl h.1.2
  exact (s_astore_n (q := Fin.ofNat 4 a) (by show a % 4 = a; omega) (nl h.2) h.1.1).S
noncomputable def k_astore : eK := fun y pc a b c dd => decide (decode (cb y) pc = .ok (.astore a, 2)) && Nat.ble (a + 1) (ml y)
theorem tt_astore : e_PK (f_astore 2) k_astore := by
  intro y pc d a b c dd h
  unfold k_astore at h
  simp only [Bool.and_eq_true, decide_eq_true_eq] at h
  exact (s_astore (nl h.2) h.1).S
noncomputable def k_iinc : eK := fun y pc a b c dd => decide (decode (cb y) pc = .ok (.iinc a ((c : Int) - 32768), 3)) && decide (Int32.ofInt ((c : Int) - 32768) = nI b) && Nat.ble (a + 1) (ml y)
theorem tt_iinc : e_PK (f_iinc) k_iinc := by
  intro y pc d a b c dd h
  unfold k_iinc at h
  simp only [Bool.and_eq_true, decide_eq_true_eq] at h
  exact (s_iinc (nl h.2) h.1.2 h.1.1).S
def k_ineg : eK := fun y pc a b c dd => decide (decode (cb y) pc = .ok (.ineg, 1))
theorem tt_ineg : e_PK (f_ineg) k_ineg := by
  intro y pc d a b c dd h
  unfold k_ineg at h
  exact (s_ineg (of_decide_eq_true h)).S
def k_idiv : eK := fun y pc a b c dd => decide (decode (cb y) pc = .ok (.idiv, 1))
theorem tt_idiv : e_PK (f_idiv) k_idiv := by
  intro y pc d a b c dd h
  unfold k_idiv at h
  exact (s_idiv (of_decide_eq_true h)).S
def k_irem : eK := fun y pc a b c dd => decide (decode (cb y) pc = .ok (.irem, 1))
theorem tt_irem : e_PK (f_irem) k_irem := by
  intro y pc d a b c dd h
  unfold k_irem at h
  exact (s_irem (of_decide_eq_true h)).S
def k_iadd : eK := fun y pc a b c dd => decide (decode (cb y) pc = .ok (.iadd, 1))
theorem tt_iadd : e_PK (f_iadd) k_iadd := by
  intro y pc d a b c dd h
  unfold k_iadd at h
  exact (s_iadd (of_decide_eq_true h)).S
def k_isub : eK := fun y pc a b c dd => decide (decode (cb y) pc = .ok (.isub, 1))
theorem tt_isub : e_PK (f_isub) k_isub := by
  intro y pc d a b c dd h
  unfold k_isub at h
  exact (s_isub (of_decide_eq_true h)).S
def k_imul : eK := fun y pc a b c dd => decide (decode (cb y) pc = .ok (.imul, 1))
theorem tt_imul : e_PK (f_imul) k_imul := by
  intro y pc d a b c dd h
  unfold k_imul at h
  exact (s_imul (of_decide_eq_true h)).S
def k_iand : eK := fun y pc a b c dd => decide (decode (cb y) pc = .ok (.iand, 1))
theorem tt_iand : e_PK (f_iand) k_iand := by
  intro y pc d a b c dd h
  unfold k_iand at h
  exact (s_iand (of_decide_eq_true h)).S
def k_ior : eK := fun y pc a b c dd => decide (decode (cb y) pc = .ok (.ior, 1))
theorem tt_ior : e_PK (f_ior) k_ior := by
  intro y pc d a b c dd h
  unfold k_ior at h
  exact (s_ior (of_decide_eq_true h)).S
def k_ixor : eK := fun y pc a b c dd => decide (decode (cb y) pc = .ok (.ixor, 1))
theorem tt_ixor : e_PK (f_ixor) k_ixor := by
  intro y pc d a b c dd h
  unfold k_ixor at h
  exact (s_ixor (of_decide_eq_true h)).S
def k_ishl : eK := fun y pc a b c dd => decide (decode (cb y) pc = .ok (.ishl, 1))
theorem tt_ishl : e_PK (f_ishl) k_ishl := by
  intro y pc d a b c dd h
  unfold k_ishl at h
  exact (s_ishl (of_decide_eq_true h)).S
def k_ishr : eK := fun y pc a b c dd => decide (decode (cb y) pc = .ok (.ishr, 1))
theorem tt_ishr : e_PK (f_ishr) k_ishr := by
  intro y pc d a b c dd h
  unfold k_ishr at h
  exact (s_ishr (of_decide_eq_true h)).S
def k_iushr : eK := fun y pc a b c dd => decide (decode (cb y) pc = .ok (.iushr, 1))
theorem tt_iushr : e_PK (f_iushr) k_iushr := by
  intro y pc d a b c dd h
  unfold k_iushr at h
  exact (s_iushr (of_decide_eq_true h)).S
def k_ladd : eK := fun y pc a b c dd => decide (decode (cb y) pc = .ok (.ladd, 1))
theorem tt_ladd : e_PK (f_ladd) k_ladd := by
  intro y pc d a b c dd h
  unfold k_ladd at h
  exact (s_ladd (of_decide_eq_true h)).S
def k_lsub : eK := fun y pc a b c dd => decide (decode (cb y) pc = .ok (.lsub, 1))
theorem tt_lsub : e_PK (f_lsub) k_lsub := by
  intro y pc d a b c dd h
  unfold k_lsub at h
  exact (s_lsub (of_decide_eq_true h)).S
def k_land : eK := fun y pc a b c dd => decide (decode (cb y) pc = .ok (.land, 1))
theorem tt_land : e_PK (f_land) k_land := by
  intro y pc d a b c dd h
  unfold k_land at h
  exact (s_land (of_decide_eq_true h)).S
def k_lor : eK := fun y pc a b c dd => decide (decode (cb y) pc = .ok (.lor, 1))
theorem tt_lor : e_PK (f_lor) k_lor := by
  intro y pc d a b c dd h
  unfold k_lor at h
  exact (s_lor (of_decide_eq_true h)).S
def k_lxor : eK := fun y pc a b c dd => decide (decode (cb y) pc = .ok (.lxor, 1))
theorem tt_lxor : e_PK (f_lxor) k_lxor := by
  intro y pc d a b c dd h
  unfold k_lxor at h
  exact (s_lxor (of_decide_eq_true h)).S
def k_lshl : eK := fun y pc a b c dd => decide (decode (cb y) pc = .ok (.lshl, 1))
theorem tt_lshl : e_PK (f_lshl) k_lshl := by
  intro y pc d a b c dd h
  unfold k_lshl at h
  exact (s_lshl (of_decide_eq_true h)).S
def k_lushr : eK := fun y pc a b c dd => decide (decode (cb y) pc = .ok (.lushr, 1))
theorem tt_lushr : e_PK (f_lushr) k_lushr := by
  intro y pc d a b c dd h
  unfold k_lushr at h
  exact (s_lushr (of_decide_eq_true h)).S
def k_i2l : eK := fun y pc a b c dd => decide (decode (cb y) pc = .ok (.i2l, 1))
theorem tt_i2l : e_PK (f_i2l) k_i2l := by
  intro y pc d a b c dd h
  unfold k_i2l at h
  exact (s_i2l (of_decide_eq_true h)).S
def k_l2i : eK := fun y pc a b c dd => decide (decode (cb y) pc = .ok (.l2i, 1))
theorem tt_l2i : e_PK (f_l2i) k_l2i := by
  intro y pc d a b c dd h
  unfold k_l2i at h
  exact (s_l2i (of_decide_eq_true h)).S
def k_i2b : eK := fun y pc a b c dd => decide (decode (cb y) pc = .ok (.i2b, 1))
theorem tt_i2b : e_PK (f_i2b) k_i2b := by
  intro y pc d a b c dd h
  unfold k_i2b at h
  exact (s_i2b (of_decide_eq_true h)).S
def k_lcmp : eK := fun y pc a b c dd => decide (decode (cb y) pc = .ok (.lcmp, 1))
theorem tt_lcmp : e_PK (f_lcmp) k_lcmp := by
  intro y pc d a b c dd h
  unfold k_lcmp at h
  exact (s_lcmp (of_decide_eq_true h)).S
def k_dup : eK := fun y pc a b c dd => decide (decode (cb y) pc = .ok (.dup, 1))
theorem tt_dup : e_PK (f_dup) k_dup := by
  intro y pc d a b c dd h
  unfold k_dup at h
  exact (s_dup (of_decide_eq_true h)).S
def k_pop : eK := fun y pc a b c dd => decide (decode (cb y) pc = .ok (.pop, 1))
theorem tt_pop : e_PK (f_pop) k_pop := by
  intro y pc d a b c dd h
  unfold k_pop at h
  exact (s_pop (of_decide_eq_true h)).S
def k_dup2 : eK := fun y pc a b c dd => decide (decode (cb y) pc = .ok (.dup2, 1))
theorem tt_dup2 : e_PK (f_dup2) k_dup2 := by
  intro y pc d a b c dd h
  unfold k_dup2 at h
  exact (s_dup2 (of_decide_eq_true h)).S
def k_goto : eK := fun y pc a b c dd => decide (decode (cb y) pc = .ok (.goto ((a : Int) - (pc : Int)), 3))
theorem tt_goto : e_PK (f_goto) k_goto := by
  intro y pc d a b c dd h
  unfold k_goto at h
  exact (s_goto (off := (a : Int) - (pc : Int)) (by omega) (of_decide_eq_true h)).S
def k_if_eq : eK := fun y pc a b c dd => decide (decode (cb y) pc = .ok (.ifCond .eq ((a : Int) - (pc : Int)), 3))
theorem tt_if_eq : e_PK (f_if 0) k_if_eq := by
  intro y pc d a b c dd h
  unfold k_if_eq at h
  exact (s_if_eq (off := (a : Int) - (pc : Int)) (by omega) (of_decide_eq_true h)).S
def k_icmp_eq : eK := fun y pc a b c dd => decide (decode (cb y) pc = .ok (.if_icmp .eq ((a : Int) - (pc : Int)), 3))
theorem tt_icmp_eq : e_PK (f_icmp 0) k_icmp_eq := by
  intro y pc d a b c dd h
  unfold k_icmp_eq at h
  exact (s_icmp_eq (off := (a : Int) - (pc : Int)) (by omega) (of_decide_eq_true h)).S
def k_if_ne : eK := fun y pc a b c dd => decide (decode (cb y) pc = .ok (.ifCond .ne ((a : Int) - (pc : Int)), 3))
theorem tt_if_ne : e_PK (f_if 1) k_if_ne := by
  intro y pc d a b c dd h
  unfold k_if_ne at h
  exact (s_if_ne (off := (a : Int) - (pc : Int)) (by omega) (of_decide_eq_true h)).S
def k_icmp_ne : eK := fun y pc a b c dd => decide (decode (cb y) pc = .ok (.if_icmp .ne ((a : Int) - (pc : Int)), 3))
theorem tt_icmp_ne : e_PK (f_icmp 1) k_icmp_ne := by
  intro y pc d a b c dd h
  unfold k_icmp_ne at h
  exact (s_icmp_ne (off := (a : Int) - (pc : Int)) (by omega) (of_decide_eq_true h)).S
def k_if_lt : eK := fun y pc a b c dd => decide (decode (cb y) pc = .ok (.ifCond .lt ((a : Int) - (pc : Int)), 3))
theorem tt_if_lt : e_PK (f_if 2) k_if_lt := by
  intro y pc d a b c dd h
  unfold k_if_lt at h
  exact (s_if_lt (off := (a : Int) - (pc : Int)) (by omega) (of_decide_eq_true h)).S
def k_icmp_lt : eK := fun y pc a b c dd => decide (decode (cb y) pc = .ok (.if_icmp .lt ((a : Int) - (pc : Int)), 3))
theorem tt_icmp_lt : e_PK (f_icmp 2) k_icmp_lt := by
  intro y pc d a b c dd h
  unfold k_icmp_lt at h
  exact (s_icmp_lt (off := (a : Int) - (pc : Int)) (by omega) (of_decide_eq_true h)).S
def k_if_ge : eK := fun y pc a b c dd => decide (decode (cb y) pc = .ok (.ifCond .ge ((a : Int) - (pc : Int)), 3))
theorem tt_if_ge : e_PK (f_if 3) k_if_ge := by
  intro y pc d a b c dd h
  unfold k_if_ge at h
  exact (s_if_ge (off := (a : Int) - (pc : Int)) (by omega) (of_decide_eq_true h)).S
def k_icmp_ge : eK := fun y pc a b c dd => decide (decode (cb y) pc = .ok (.if_icmp .ge ((a : Int) - (pc : Int)), 3))
theorem tt_icmp_ge : e_PK (f_icmp 3) k_icmp_ge := by
  intro y pc d a b c dd h
  unfold k_icmp_ge at h
  exact (s_icmp_ge (off := (a : Int) - (pc : Int)) (by omega) (of_decide_eq_true h)).S
def k_if_gt : eK := fun y pc a b c dd => decide (decode (cb y) pc = .ok (.ifCond .gt ((a : Int) - (pc : Int)), 3))
theorem tt_if_gt : e_PK (f_if 4) k_if_gt := by
  intro y pc d a b c dd h
  unfold k_if_gt at h
  exact (s_if_gt (off := (a : Int) - (pc : Int)) (by omega) (of_decide_eq_true h)).S
def k_icmp_gt : eK := fun y pc a b c dd => decide (decode (cb y) pc = .ok (.if_icmp .gt ((a : Int) - (pc : Int)), 3))
theorem tt_icmp_gt : e_PK (f_icmp 4) k_icmp_gt := by
  intro y pc d a b c dd h
  unfold k_icmp_gt at h
  exact (s_icmp_gt (off := (a : Int) - (pc : Int)) (by omega) (of_decide_eq_true h)).S
def k_if_le : eK := fun y pc a b c dd => decide (decode (cb y) pc = .ok (.ifCond .le ((a : Int) - (pc : Int)), 3))
theorem tt_if_le : e_PK (f_if 5) k_if_le := by
  intro y pc d a b c dd h
  unfold k_if_le at h
  exact (s_if_le (off := (a : Int) - (pc : Int)) (by omega) (of_decide_eq_true h)).S
def k_icmp_le : eK := fun y pc a b c dd => decide (decode (cb y) pc = .ok (.if_icmp .le ((a : Int) - (pc : Int)), 3))
theorem tt_icmp_le : e_PK (f_icmp 5) k_icmp_le := by
  intro y pc d a b c dd h
  unfold k_icmp_le at h
  exact (s_icmp_le (off := (a : Int) - (pc : Int)) (by omega) (of_decide_eq_true h)).S
def k_table : eK := fun y pc a b c dd => match e_sw a with
  | (d9, lw, ts) => Nat.ble lw 999 && Nat.ble ts.length 999 && (match decode (cb y) pc with
    | .ok (.tableswitch dflt lo hi offs, _) => decide (lo = (lw : Int)) && decide (hi = (lw : Int) + ts.length - 1) && decide ((pc : Int) + dflt = (d9 : Int)) && (List.range ts.length).all (fun i => match ts[i]?, offs[i]? with
      | some t, some off => decide ((pc : Int) + off = (t : Int))
      | _, _ => false)
    | _ => false)
theorem tt_table : e_PK (f_table e_sw) k_table := by
  intro y pc d a b c dd h
  unfold k_table at h
  generalize hsw : e_sw a = x at h
  obtain ⟨d9, lw, ts⟩ := x
  dsimp only at h
  simp only [Bool.and_eq_true] at h
  obtain ⟨⟨h1, h2⟩, h3⟩ := h
  split at h3
  · rename_i dflt lo hi offs len hdec
    simp only [Bool.and_eq_true, decide_eq_true_eq] at h3
    obtain ⟨⟨⟨e1, e2⟩, e3⟩, e4⟩ := h3
    subst e1
    subst e2
    refine (s_table hsw ⟨Nat.lt_succ_of_le (nl h1), Nat.lt_succ_of_le (nl h2)⟩ hdec e3 (fun i t ht => ?_)).S
    have hi := (List.getElem?_eq_some_iff.mp ht).1
    have := List.all_eq_true.mp e4 i (List.mem_range.mpr hi)
    rw [ht] at this
    split at this
    · rename_i t9 off heq hoff
      cases heq
      exact ⟨off, hoff, of_decide_eq_true this⟩
    · cases this
  · cases h3
def k_iret : eK := fun y pc a b c dd => decide (decode (cb y) pc = .ok (.ireturn, 1)) && ((Nat.beq a 0 && decide (rt y = some .int)) || (Nat.beq a 1 && decide (rt y = some .boolean)))
theorem tt_iret : e_PK (f_iret) k_iret := by
  intro y pc d a b c dd h
  unfold k_iret at h
  simp only [Bool.and_eq_true, Bool.or_eq_true, decide_eq_true_eq] at h
  refine s_iret ?_ h.1
  rcases h.2 with ⟨h1, h2⟩ | ⟨h1, h2⟩
  · exact Or.inl ⟨nb h1, h2⟩
  · exact Or.inr ⟨nb h1, h2⟩
def k_lret : eK := fun y pc a b c dd => decide (decode (cb y) pc = .ok (.lreturn, 1)) && decide (rt y = some .long)
theorem tt_lret : e_PK (f_lret) k_lret := by
  intro y pc d a b c dd h
  unfold k_lret at h
  simp only [Bool.and_eq_true, decide_eq_true_eq] at h
  exact s_lret h.2 h.1
def k_aret : eK := fun y pc a b c dd => decide (decode (cb y) pc = .ok (.areturn, 1)) && decide (rt y = some (.array .long))
theorem tt_aret : e_PK (f_aret) k_aret := by
  intro y pc d a b c dd h
  unfold k_aret at h
  simp only [Bool.and_eq_true, decide_eq_true_eq] at h
  exact s_aret ⟨_, h.2⟩ h.1
def k_ret : eK := fun y pc a b c dd => decide (decode (cb y) pc = .ok (.return_, 1)) && decide (rt y = none)
theorem tt_ret : e_PK (f_ret) k_ret := by
  intro y pc d a b c dd h
  unfold k_ret at h
  simp only [Bool.and_eq_true, decide_eq_true_eq] at h
  exact s_ret h.2 h.1
def k_getf : eK := fun y pc a b c dd => decide (decode (cb y) pc = .ok (.getfield c, 3)) && Nat.ble a 99 && (match vwCl[a]? with
  | some q => Nat.ble (b + 1) q.2.2 && e_w dd (.fieldLink (nm y).cls c (q.2.1 b).1 (q.2.1 b).2.1 (q.2.1 b).2.2.1)
  | none => false)
theorem tt_getf : e_PK (f_getf) k_getf := by
  intro y pc d a b c dd h
  unfold k_getf at h
  simp only [Bool.and_eq_true, decide_eq_true_eq] at h
  obtain ⟨⟨h1, h2⟩, h3⟩ := h
  split at h3
  · rename_i q hq
    obtain ⟨C, T, N⟩ := q
    simp only [Bool.and_eq_true] at h3
    exact (s_getf (Nat.lt_succ_of_le (nl h2)) hq (nl h3.1) (q_cls hq) (e_w_in h3.2) h1).S
  · cases h3
def k_putf : eK := fun y pc a b c dd => decide (decode (cb y) pc = .ok (.putfield (dd % 4096), 3)) && Nat.ble a 99 && (match vwCl[a]? with
  | some q => Nat.ble (b + 1) q.2.2 && e_w (dd / 4096) (.fieldLink (nm y).cls (dd % 4096) (q.2.1 b).1 (q.2.1 b).2.1 (q.2.1 b).2.2.1) && decide ((q.2.1 b).2.2.2 = false) && e_tc c (e_ft a b)
  | none => false)
theorem tt_putf : e_PK (f_putf) k_putf := by
  intro y pc d a b c dd h
  unfold k_putf at h
  simp only [Bool.and_eq_true, decide_eq_true_eq] at h
  obtain ⟨⟨h1, h2⟩, h3⟩ := h
  split at h3
  · rename_i q hq
    obtain ⟨C, T, N⟩ := q
    simp only [Bool.and_eq_true, decide_eq_true_eq] at h3
    obtain ⟨⟨⟨k1, k2⟩, k3⟩, k4⟩ := h3
    exact (s_putf (i9 := dd % 4096) (Nat.lt_succ_of_le (nl h2)) hq (nl k1) (q_cls hq) (q_ty hq).1 (q_ty hq).2.1 k3 k4 (e_w_in k2) h1).S
  · cases h3
def k_putfF : eK := fun y pc a b c dd => decide (decode (cb y) pc = .ok (.putfield (dd % 4096), 3)) && Nat.ble a 99 && (match vwCl[a]? with
  | some q => Nat.ble (b + 1) q.2.2 && e_w (dd / 4096) (.fieldLink (nm y).cls (dd % 4096) (q.2.1 b).1 (q.2.1 b).2.1 (q.2.1 b).2.2.1) && decide ((q.2.1 b).2.2.2 = true) && e_tc c (e_ft a b) && decide ((nm y).name = "<init>") && decide ((q.2.1 b).1 = (nm y).cls)
  | none => false)
theorem tt_putfF : e_PK (f_putf) k_putfF := by
  intro y pc d a b c dd h
  unfold k_putfF at h
  simp only [Bool.and_eq_true, decide_eq_true_eq] at h
  obtain ⟨⟨h1, h2⟩, h3⟩ := h
  split at h3
  · rename_i q hq
    obtain ⟨C, T, N⟩ := q
    simp only [Bool.and_eq_true, decide_eq_true_eq] at h3
    obtain ⟨⟨⟨⟨⟨k1, k2⟩, k3⟩, k4⟩, k5⟩, k6⟩ := h3
    exact (s_putfF (i9 := dd % 4096) (Nat.lt_succ_of_le (nl h2)) hq (nl k1) (q_cls hq) (q_ty hq).1 (q_ty hq).2.1 k3 k5 k6 k4 (e_w_in k2) h1).S
  · cases h3
def k_iald : eK := fun y pc a b c dd => decide (decode (cb y) pc = .ok (.iaload, 1))
theorem tt_iald : e_PK (f_xald 100 0) k_iald := by
  intro y pc d a b c dd h
  unfold k_iald at h
  exact (s_iald (of_decide_eq_true h)).S
def k_lald : eK := fun y pc a b c dd => decide (decode (cb y) pc = .ok (.laload, 1))
theorem tt_lald : e_PK (f_xald 102 2) k_lald := by
  intro y pc d a b c dd h
  unfold k_lald at h
  exact (s_lald (of_decide_eq_true h)).S
def k_bald : eK := fun y pc a b c dd => decide (decode (cb y) pc = .ok (.baload, 1))
theorem tt_bald : e_PK (f_xald 101 0) k_bald := by
  intro y pc d a b c dd h
  unfold k_bald at h
  exact (s_bald (of_decide_eq_true h)).S
def k_aald : eK := fun y pc a b c dd => decide (decode (cb y) pc = .ok (.aaload, 1))
theorem tt_aald : e_PK (f_xald 103 3) k_aald := by
  intro y pc d a b c dd h
  unfold k_aald at h
  exact (s_aald (of_decide_eq_true h)).S
def k_rald : eK := fun y pc a b c dd => decide (decode (cb y) pc = .ok (.aaload, 1))
theorem tt_rald : e_PK (f_xald 104 3) k_rald := by
  intro y pc d a b c dd h
  unfold k_rald at h
  exact (s_rald (of_decide_eq_true h)).S
def k_iast : eK := fun y pc a b c dd => decide (decode (cb y) pc = .ok (.iastore, 1))
theorem tt_iast : e_PK (f_xast 100 0) k_iast := by
  intro y pc d a b c dd h
  unfold k_iast at h
  exact (s_iast (of_decide_eq_true h)).S
def k_last : eK := fun y pc a b c dd => decide (decode (cb y) pc = .ok (.lastore, 1))
theorem tt_last : e_PK (f_xast 102 2) k_last := by
  intro y pc d a b c dd h
  unfold k_last at h
  exact (s_last (of_decide_eq_true h)).S
def k_bast : eK := fun y pc a b c dd => decide (decode (cb y) pc = .ok (.bastore, 1))
theorem tt_bast : e_PK (f_xast 101 4) k_bast := by
  intro y pc d a b c dd h
  unfold k_bast at h
  exact (s_bast (of_decide_eq_true h)).S
def k_aast : eK := fun y pc a b c dd => decide (decode (cb y) pc = .ok (.aastore, 1))
theorem tt_aast : e_PK (f_aast) k_aast := by
  intro y pc d a b c dd h
  unfold k_aast at h
  exact (s_aast (of_decide_eq_true h)).S
def k_alen : eK := fun y pc a b c dd => decide (decode (cb y) pc = .ok (.arraylength, 1))
theorem tt_alen : e_PK (f_alen) k_alen := by
  intro y pc d a b c dd h
  unfold k_alen at h
  exact (s_alen (of_decide_eq_true h)).S
def k_newa : eK := fun y pc a b c dd => (Nat.beq a 100 && decide (decode (cb y) pc = .ok (.newarray .int, 2))) || (Nat.beq a 101 && decide (decode (cb y) pc = .ok (.newarray .byte, 2))) || (Nat.beq a 102 && decide (decode (cb y) pc = .ok (.newarray .long, 2)))
theorem tt_newa : e_PK (f_newa) k_newa := by
  intro y pc d a b c dd h
  unfold k_newa at h
  simp only [Bool.or_eq_true, Bool.and_eq_true, decide_eq_true_eq] at h
  rcases h with (⟨h1, h2⟩ | ⟨h1, h2⟩) | ⟨h1, h2⟩
  · have e := nb h1
    subst e
    exact (s_newa100 q_arr.1 h2).S
  · have e := nb h1
    subst e
    exact (s_newa101 q_arr.2.1 h2).S
  · have e := nb h1
    subst e
    exact (s_newa102 q_arr.2.2 h2).S
def k_anew : eK := fun y pc a b c dd => decide (decode (cb y) pc = .ok (.anewarray b, 3)) && e_w dd (.classLink (nm y).cls b "IslandHall$Code")
theorem tt_anew : e_PK (f_anew) k_anew := by
  intro y pc d a b c dd h
  unfold k_anew at h
  simp only [Bool.and_eq_true, decide_eq_true_eq] at h
  exact (s_anew (e_w_in h.2) h.1).S
def k_mnew : eK := fun y pc a b c dd => decide (decode (cb y) pc = .ok (.multianewarray b 2, 4)) && e_w dd (.classLink (nm y).cls b "[[J")
theorem tt_mnew : e_PK (f_mnew) k_mnew := by
  intro y pc d a b c dd h
  unfold k_mnew at h
  simp only [Bool.and_eq_true, decide_eq_true_eq] at h
  exact (s_mnew (e_w_in h.2) q_arr.2.2 h.1).S
def k_new : eK := fun y pc a b c dd => decide (decode (cb y) pc = .ok (.new b, 3)) && Nat.ble a 99 && (match vwCl[a]? with
  | some q => e_w dd (.classLink (nm y).cls b q.1)
  | none => false)
theorem tt_new : e_PK (f_new e_fn e_dv) k_new := by
  intro y pc d a b c dd h
  unfold k_new at h
  simp only [Bool.and_eq_true, decide_eq_true_eq] at h
  obtain ⟨⟨h1, h2⟩, h3⟩ := h
  split at h3
  · rename_i q hq
    obtain ⟨C, T, N⟩ := q
    obtain ⟨e1, e2, e3⟩ := q_ty hq
    have e4 := q_cls hq
    have e5 := q_ok hq
    have e6 := q_in hq
    subst e3
    exact (s_new (Nat.lt_succ_of_le (nl h2)) hq e4 e1 e5 (e_w_in h3) e6.1 e6.2 h1).S
  · cases h3
def k_sald : eK := fun y pc a b c dd => decide (decode (cb y) pc = .ok (.iaload, 1)) && Nat.beq y 0
theorem tt_sald : e_PK (f_sald) k_sald := by
  intro y pc d a b c dd h
  unfold k_sald at h
  simp only [Bool.and_eq_true, decide_eq_true_eq] at h
  exact (s_sald (nb h.2) h.1).S
def k_slen : eK := fun y pc a b c dd => decide (decode (cb y) pc = .ok (.arraylength, 1)) && Nat.beq y 0
theorem tt_slen : e_PK (f_slen) k_slen := by
  intro y pc d a b c dd h
  unfold k_slen at h
  simp only [Bool.and_eq_true, decide_eq_true_eq] at h
  exact (s_slen (nb h.2) h.1).S
noncomputable def k_callv : eK := fun y pc a b c dd => decide (decode (cb y) pc = .ok (.invokevirtual c, 3)) && Nat.beq (mk a) 0 && decide (mh y = []) && Nat.beq (mp a) (b - 1) && e_w dd (.methodLink (nm y).cls c (nm a))
theorem tt_callv : e_PK (f_callv e_mc) k_callv := by
  intro y pc d a b c dd h
  unfold k_callv at h
  simp only [Bool.and_eq_true, decide_eq_true_eq] at h
  obtain ⟨⟨⟨⟨h1, h2⟩, h3⟩, h4⟩, h5⟩ := h
  have hk := nb h2
  obtain ⟨m0, m1, m2, m3, m4⟩ := m_all (a := a) (by omega)
  rcases m4 with ⟨m5, -⟩ | ⟨m5, m6, ⟨m7, -⟩ | ⟨m7, -⟩ | ⟨-, m8, m9, m10, T, n, m11⟩⟩
  · omega
  · omega
  · omega
  · exact s_callv m0 h3 m5 (e_w_in h5) m8 m9 m3 m6 (by rw [← nb h4]; exact m1) m2 m10 m11 h1
noncomputable def k_calls : eK := fun y pc a b c dd => decide (decode (cb y) pc = .ok (.invokevirtual c, 3)) && ((Nat.beq a 268 && Nat.beq b 1) || (Nat.beq a 269 && Nat.beq b 2)) && decide (mh y = []) && e_w dd (.methodLink (nm y).cls c (nm a))
theorem tt_calls : e_PK (f_calls) k_calls := by
  intro y pc d a b c dd h
  unfold k_calls at h
  simp only [Bool.and_eq_true, Bool.or_eq_true, decide_eq_true_eq] at h
  obtain ⟨⟨⟨h1, h2⟩, h3⟩, h4⟩ := h
  rcases h2 with ⟨h5, h6⟩ | ⟨h5, h6⟩
  · have ea := nb h5
    have eb := nb h6
    subst ea
    subst eb
    obtain ⟨q1, q2, q3, q4, q5, q6, q7, q8⟩ := q_len
    exact s_calls (by decide) h3 q3 (e_w_in h4) q6 q7 q4 q5 q1 q2 q8 h1
  · have ea := nb h5
    have eb := nb h6
    subst ea
    subst eb
    obtain ⟨q1, q2, q3, q4, q5, q6, q7, q8⟩ := q_cha
    exact s_calls (by decide) h3 q3 (e_w_in h4) q6 q7 q4 q5 q1 q2 q8 h1
noncomputable def k_calli : eK := fun y pc a b c dd => decide (decode (cb y) pc = .ok (.invokespecial c, 3)) && Nat.beq (mk a) 1 && decide (mh y = []) && Nat.beq (mp a) (b - 1) && e_w dd (.methodLink (nm y).cls c (nm a))
theorem tt_calli : e_PK (f_calli) k_calli := by
  intro y pc d a b c dd h
  unfold k_calli at h
  simp only [Bool.and_eq_true, decide_eq_true_eq] at h
  obtain ⟨⟨⟨⟨h1, h2⟩, h3⟩, h4⟩, h5⟩ := h
  have hk := nb h2
  obtain ⟨m0, m1, m2, m3, m4⟩ := m_all (a := a) (by omega)
  rcases m4 with ⟨m5, -⟩ | ⟨m5, m6, ⟨m7, -⟩ | ⟨-, m8, m9, m10⟩ | ⟨m7, -⟩⟩
  · omega
  · omega
  · exact s_calli m0 h3 m5 m9 (Or.inl (e_w_in h5)) m8 m3 (by rw [← m10]; exact m6) m10 (by rw [← nb h4]; exact m1) m2 h1
  · omega
noncomputable def k_call : eK := fun y pc a b c dd => decide (decode (cb y) pc = .ok (.invokestatic c, 3)) && Nat.beq (mk a) 2 && decide (mh y = []) && Nat.beq (mp a) b && e_w dd (.methodLink (nm y).cls c (nm a))
theorem tt_call : e_PK (f_call) k_call := by
  intro y pc d a b c dd h
  unfold k_call at h
  simp only [Bool.and_eq_true, decide_eq_true_eq] at h
  obtain ⟨⟨⟨⟨h1, h2⟩, h3⟩, h4⟩, h5⟩ := h
  have hk := nb h2
  obtain ⟨m0, m1, m2, m3, m4⟩ := m_all (a := a) (by omega)
  rcases m4 with ⟨m5, -⟩ | ⟨m5, m6, ⟨-, m7⟩ | ⟨m7, -⟩ | ⟨m7, -⟩⟩
  · omega
  · exact s_call m0 h3 m5 (e_w_in h5) m7 m3 m6 (by rw [← nb h4]; exact m1) m2 h1
  · omega
  · omega
def k_oinit : eK := fun y pc a b c dd => decide (decode (cb y) pc = .ok (.invokespecial c, 3)) && e_w dd (.methodLink (nm y).cls c objectInit)
theorem tt_oinit : e_PK (f_oinit) k_oinit := by
  intro y pc d a b c dd h
  unfold k_oinit at h
  simp only [Bool.and_eq_true, decide_eq_true_eq] at h
  exact (s_oinit (e_w_in h.2) q_obj.1 q_obj.2 h.1).S
noncomputable def k_callin : eK := fun y pc a b c dd => decide (decode (cb y) pc = .ok (.invokespecial c, 3)) && Nat.beq (mk a) 1 && decide (mh y = []) && Nat.beq (mp a) (b - 1) && decide (Cond.methodLinkNest (nm y).cls c (nm a) "IslandHall" ∈ e_nw)
theorem tt_callin : e_PK (f_calli) k_callin := by
  intro y pc d a b c dd h
  unfold k_callin at h
  simp only [Bool.and_eq_true, decide_eq_true_eq] at h
  obtain ⟨⟨⟨⟨h1, h2⟩, h3⟩, h4⟩, h5⟩ := h
  have hk := nb h2
  obtain ⟨m0, m1, m2, m3, m4⟩ := m_all (a := a) (by omega)
  rcases m4 with ⟨m5, -⟩ | ⟨m5, m6, ⟨m7, -⟩ | ⟨-, m8, m9, m10⟩ | ⟨m7, -⟩⟩
  · omega
  · omega
  · exact s_calli m0 h3 m5 m9 (Or.inr ⟨_, h5⟩) m8 m3 (by rw [← m10]; exact m6) m10 (by rw [← nb h4]; exact m1) m2 h1
  · omega
def k_throw : eK := fun y pc a b c dd => (match e_strs[b]? with
  | some q => decide (q.1 = "IslandHall") && Nat.beq q.2.1 c
  | none => false) && decide ((nm y).cls = "IslandHall") && decide (mh y = []) && decide (decode (cb y) pc = .ok (.new (dd / 4096), 3)) && decide (decode (cb y) (pc + 3) = .ok (.dup, 1)) && decide (decode (cb y) (pc + 4) = .ok (.ldc c, 2)) && decide (decode (cb y) (pc + 6) = .ok (.invokespecial (dd % 4096), 3)) && decide (decode (cb y) (pc + 9) = .ok (.athrow, 1)) && ((Nat.beq a 0 && Nat.beq dd 721076) || (Nat.beq a 1 && Nat.beq dd 663718))
theorem tt_throw : e_PK (f_throw) k_throw := by
  intro y pc d a b c dd h
  unfold k_throw at h
  simp only [Bool.and_eq_true, Bool.or_eq_true, decide_eq_true_eq] at h
  obtain ⟨⟨⟨⟨⟨⟨⟨⟨h1, h2⟩, h3⟩, h4⟩, h5⟩, h6⟩, h7⟩, h8⟩, h9⟩ := h
  split at h1
  · rename_i q hq
    simp only [Bool.and_eq_true, decide_eq_true_eq] at h1
    obtain ⟨q1, q2, q3⟩ := q
    have e1 : q1 = "IslandHall" := h1.1
    have e2 : q2 = c := nb h1.2
    subst e1
    subst e2
    rcases h9 with ⟨k1, k2⟩ | ⟨k1, k2⟩
    · have ea := nb k1
      have ed := nb k2
      subst ea
      subst ed
      exact s_throw (ik := 176) (ic := 180) (w1 := 0) (w2 := 0) h2 h3 (by decide +kernel) (by decide +kernel) (by decide +kernel) (by decide +kernel) q_nse q_nse2.1 q_nse2.2 hq h4 h5 (Or.inl ⟨h6, h7, h8⟩)
    · have ea := nb k1
      have ed := nb k2
      subst ea
      subst ed
      exact s_throw (ik := 162) (ic := 166) (w1 := 0) (w2 := 0) h2 h3 (by decide +kernel) (by decide +kernel) (by decide +kernel) (by decide +kernel) q_iae q_iae2.1 q_iae2.2 hq h4 h5 (Or.inl ⟨h6, h7, h8⟩)
  · cases h1
def k_throww : eK := fun y pc a b c dd => (match e_strs[b]? with
  | some q => decide (q.1 = "IslandHall") && Nat.beq q.2.1 c
  | none => false) && decide ((nm y).cls = "IslandHall") && decide (mh y = []) && decide (decode (cb y) pc = .ok (.new (dd / 4096), 3)) && decide (decode (cb y) (pc + 3) = .ok (.dup, 1)) && decide (decode (cb y) (pc + 4) = .ok (.ldc_w c, 3)) && decide (decode (cb y) (pc + 7) = .ok (.invokespecial (dd % 4096), 3)) && decide (decode (cb y) (pc + 10) = .ok (.athrow, 1)) && ((Nat.beq a 0 && Nat.beq dd 721076) || (Nat.beq a 1 && Nat.beq dd 663718))
theorem tt_throww : e_PK (f_throw) k_throww := by
  intro y pc d a b c dd h
  unfold k_throww at h
  simp only [Bool.and_eq_true, Bool.or_eq_true, decide_eq_true_eq] at h
  obtain ⟨⟨⟨⟨⟨⟨⟨⟨h1, h2⟩, h3⟩, h4⟩, h5⟩, h6⟩, h7⟩, h8⟩, h9⟩ := h
  split at h1
  · rename_i q hq
    simp only [Bool.and_eq_true, decide_eq_true_eq] at h1
    obtain ⟨q1, q2, q3⟩ := q
    have e1 : q1 = "IslandHall" := h1.1
    have e2 : q2 = c := nb h1.2
    subst e1
    subst e2
    rcases h9 with ⟨k1, k2⟩ | ⟨k1, k2⟩
    · have ea := nb k1
      have ed := nb k2
      subst ea
      subst ed
      exact s_throw (ik := 176) (ic := 180) (w1 := 0) (w2 := 0) h2 h3 (by decide +kernel) (by decide +kernel) (by decide +kernel) (by decide +kernel) q_nse q_nse2.1 q_nse2.2 hq h4 h5 (Or.inr ⟨h6, h7, h8⟩)
    · have ea := nb k1
      have ed := nb k2
      subst ea
      subst ed
      exact s_throw (ik := 162) (ic := 166) (w1 := 0) (w2 := 0) h2 h3 (by decide +kernel) (by decide +kernel) (by decide +kernel) (by decide +kernel) q_iae q_iae2.1 q_iae2.2 hq h4 h5 (Or.inr ⟨h6, h7, h8⟩)
  · cases h1
def k_kget : eK := fun y pc a b c dd => decide (decode (cb y) pc = .ok (.getstatic c, 3)) && decide (Cond.fieldLinkNest (nm y).cls c "IslandHall" "KIND_OF_CODE" "[I" "IslandHall" ∈ e_nw)
theorem tt_kget : e_PK (f_kget) k_kget := by
  intro y pc d a b c dd h
  unfold k_kget at h
  simp only [Bool.and_eq_true, decide_eq_true_eq] at h
  exact (s_kget h.2 h.1).S
def k_kald : eK := fun y pc a b c dd => decide (decode (cb y) pc = .ok (.iaload, 1))
theorem tt_kald : e_PK (f_kald) k_kald := by
  intro y pc d a b c dd h
  unfold k_kald at h
  exact (s_kald (of_decide_eq_true h)).S
def k_min : eK := fun y pc a b c dd => decide (decode (cb y) pc = .ok (.invokestatic c, 3)) && e_w dd (.methodLink (nm y).cls c Lib.Math.min.name)
theorem tt_min : e_PK (f_min) k_min := by
  intro y pc d a b c dd h
  unfold k_min at h
  simp only [Bool.and_eq_true, decide_eq_true_eq] at h
  exact (s_min (e_w_in h.2) q_min.1 q_min.2.1 q_min.2.2 h.1).S
def k_copyI : eK := fun y pc a b c dd => decide (decode (cb y) pc = .ok (.invokestatic c, 3)) && e_w dd (.methodLink (nm y).cls c arraycopyName)
theorem tt_copyI : e_PK (f_copy 100) k_copyI := by
  intro y pc d a b c dd h
  unfold k_copyI at h
  simp only [Bool.and_eq_true, decide_eq_true_eq] at h
  exact (s_copyI (e_w_in h.2) q_copy.1 q_copy.2.1 q_copy.2.2 h.1).S
def k_copyL : eK := fun y pc a b c dd => decide (decode (cb y) pc = .ok (.invokestatic c, 3)) && e_w dd (.methodLink (nm y).cls c arraycopyName)
theorem tt_copyL : e_PK (f_copy 102) k_copyL := by
  intro y pc d a b c dd h
  unfold k_copyL at h
  simp only [Bool.and_eq_true, decide_eq_true_eq] at h
  exact (s_copyL (e_w_in h.2) q_copy.1 q_copy.2.1 q_copy.2.2 h.1).S
def e_hj (y hp : Nat) : Nat × Nat := match decode (cb y) hp with
  | .ok (.astore_n q, 1) => (1, q)
  | .ok (.astore j, 2) => (2, j)
  | _ => (0, 0)
theorem e_hj_s {y hp ln j : Nat} (h : e_hj y hp = (ln, j)) (h0 : ln ≠ 0) : (ln = 1 ∧ ∃ q : Fin 4, (q : Nat) = j ∧ decode (cb y) hp = .ok (.astore_n q, 1)) ∨ (ln = 2 ∧ decode (cb y) hp = .ok (.astore j, 2)) := by
  unfold e_hj at h
  split at h
  · rename_i q hd
    cases h
    exact Or.inl ⟨rfl, q, rfl, hd⟩
  · rename_i j2 hd
    cases h
    exact Or.inr ⟨rfl, hd⟩
  · cases h
    exact absurd rfl h0
noncomputable def k_callc : eK := fun y pc a b c dd => decide (decode (cb y) pc = .ok (.invokevirtual c, 3)) && Nat.beq (mk a) 0 && Nat.beq (mp a) (b - 1) && e_w dd (.methodLink (nm y).cls c (nm a)) && decide (rt y = some .int) && decide ((nm y).cls = "IslandHallLaw") && (match mh y with
  | [(sp, ep, hp, cx)] => Nat.ble sp pc && Nat.ble (pc + 1) ep && ((Nat.beq (e_xk a) 0 && Nat.beq cx 21) || (Nat.beq (e_xk a) 1 && Nat.beq cx 13)) && Nat.ble 1 (e_hj y hp).1 && Nat.ble ((e_hj y hp).2 + 1) (ml y) && decide (decode (cb y) (hp + (e_hj y hp).1) = .ok (.iconst 1, 1)) && decide (decode (cb y) (hp + (e_hj y hp).1 + 1) = .ok (.ireturn, 1))
  | _ => false)
theorem tt_callc : e_PK (f_callc e_mc e_xk) k_callc := by
  intro y pc d a b c dd h
  unfold k_callc at h
  simp only [Bool.and_eq_true, decide_eq_true_eq] at h
  obtain ⟨⟨⟨⟨⟨⟨h1, h2⟩, h4⟩, h5⟩, h6⟩, h7⟩, h8⟩ := h
  split at h8
  · rename_i sp ep hp cx hmy
    simp only [Bool.and_eq_true, Bool.or_eq_true, decide_eq_true_eq] at h8
    obtain ⟨⟨⟨⟨⟨⟨k1, k2⟩, k3⟩, k4⟩, k5⟩, k6⟩, k7⟩ := h8
    have hk := nb h2
    obtain ⟨m0, m1, m2, m3, m4⟩ := m_all (a := a) (by omega)
    generalize hhj : e_hj y hp = z at k4 k5 k6 k7
    obtain ⟨ln, j⟩ := z
    have hln := nl k4
    have hwx : Cond.classLink (nm y).cls cx (e_exn (e_xk a)) ∈ GW ∧ cx ≠ 0 := by
      rw [h7]
      rcases k3 with ⟨a1, a2⟩ | ⟨a1, a2⟩
      · rw [nb a1, nb a2]
        exact ⟨q_caught.1, by decide⟩
      · rw [nb a1, nb a2]
        exact ⟨q_caught.2, by decide⟩
    rcases m4 with ⟨m5, -⟩ | ⟨m5, m6, ⟨m7, -⟩ | ⟨m7, -⟩ | ⟨-, m8, m9, m10, T, n, m11⟩⟩
    · omega
    · omega
    · omega
    · exact s_callc m0 hmy hwx.2 ⟨nl k1, nl k2⟩ hwx.1 h6 (nl k5) (e_hj_s hhj (by omega)) k6 k7 m5 (e_w_in h5) m8 m9 m3 m6 (by rw [← nb h4]; exact m1) m2 m10 m11 h1
  · cases h8
noncomputable def k_callx : eK := fun y pc a b c dd => decide (decode (cb y) pc = .ok (.invokestatic c, 3)) && Nat.beq (mk a) 3 && decide (mh y = []) && Nat.beq (mp a) b && e_w dd (.methodLink (nm y).cls c (nm a))
theorem tt_callx : e_PK (f_call) k_callx := by
  intro y pc d a b c dd h
  unfold k_callx at h
  simp only [Bool.and_eq_true, decide_eq_true_eq] at h
  obtain ⟨⟨⟨⟨h1, h2⟩, h3⟩, h4⟩, h5⟩ := h
  have hk := nb h2
  obtain ⟨m0, m1, m2, m3, m4⟩ := m_all (a := a) (by omega)
  rcases m4 with ⟨-, m5, m6, m7⟩ | ⟨m5, m6, ⟨m7, -⟩ | ⟨m7, -⟩ | ⟨m7, -⟩⟩
  · exact s_callx m0 h3 m5 (e_w_in h5) m6 m3 m7 (by rw [← nb h4]; exact m1) m2 h1
  · omega
  · omega
  · omega
noncomputable def ckT_0 : xT eK 3 := (((k_no, k_iconst), (k_bipush, k_sipush)), ((k_ldc, k_ldcw), (k_lconst, k_ldc2)))
noncomputable def ckT_1 : xT eK 3 := (((k_ldcs, k_kget), (k_iload_n, k_iload)), ((k_lload_n, k_lload), (k_aload_n, k_aload)))
noncomputable def ckT_2 : xT eK 3 := (((k_istore_n, k_istore), (k_lstore_n, k_lstore)), ((k_astore_n, k_astore), (k_iinc, k_kald)))
noncomputable def ckT_3 : xT eK 3 := (((k_ineg, k_idiv), (k_irem, k_no)), ((k_no, k_no), (k_iadd, k_isub)))
noncomputable def ckT_4 : xT eK 3 := (((k_imul, k_iand), (k_ior, k_ixor)), ((k_ishl, k_ishr), (k_iushr, k_no)))
noncomputable def ckT_5 : xT eK 3 := (((k_no, k_ladd), (k_lsub, k_land)), ((k_lor, k_lxor), (k_lshl, k_lushr)))
noncomputable def ckT_6 : xT eK 3 := (((k_i2l, k_l2i), (k_i2b, k_lcmp)), ((k_dup, k_pop), (k_dup2, k_no)))
noncomputable def ckT_7 : xT eK 3 := (((k_no, k_no), (k_no, k_no)), ((k_goto, k_if_eq), (k_if_ne, k_if_lt)))
noncomputable def ckT_8 : xT eK 3 := (((k_if_ge, k_if_gt), (k_if_le, k_icmp_eq)), ((k_icmp_ne, k_icmp_lt), (k_icmp_ge, k_icmp_gt)))
noncomputable def ckT_9 : xT eK 3 := (((k_icmp_le, k_table), (k_iret, k_lret)), ((k_aret, k_ret), (k_no, k_no)))
noncomputable def ckT_10 : xT eK 3 := (((k_getf, k_putf), (k_putfF, k_iald)), ((k_lald, k_bald), (k_aald, k_rald)))
noncomputable def ckT_11 : xT eK 3 := (((k_iast, k_last), (k_bast, k_aast)), ((k_alen, k_newa), (k_anew, k_mnew)))
noncomputable def ckT_12 : xT eK 3 := (((k_new, k_sald), (k_slen, k_no)), ((k_callv, k_calli), (k_call, k_oinit)))
noncomputable def ckT_13 : xT eK 3 := (((k_callin, k_throw), (k_no, k_no)), ((k_no, k_copyI), (k_copyL, k_callc)))
noncomputable def ckT_14 : xT eK 3 := (((k_throww, k_callx), (k_min, k_calls)), ((k_no, k_no), (k_no, k_no)))
noncomputable def ckT_15 : xT eK 3 := (((k_no, k_no), (k_no, k_no)), ((k_no, k_no), (k_no, k_no)))
noncomputable def ckT : xT eK 7 := ((((ckT_0, ckT_1), (ckT_2, ckT_3)), ((ckT_4, ckT_5), (ckT_6, ckT_7))), (((ckT_8, ckT_9), (ckT_10, ckT_11)), ((ckT_12, ckT_13), (ckT_14, ckT_15))))
/-- two trees, leaf by leaf -/
def x2 (α β : Type) (P : α → β → Prop) (n : Nat) : xT α n → xT β n → Prop :=
  Nat.rec (motive := fun n => xT α n → xT β n → Prop) (fun a b => P a b) (fun n ih t u => ih (@Prod.fst (xT α n) (xT α n) t) (@Prod.fst (xT β n) (xT β n) u) ∧ ih (@Prod.snd (xT α n) (xT α n) t) (@Prod.snd (xT β n) (xT β n) u)) n
theorem x2_get {α β : Type} {P : α → β → Prop} : ∀ (n : Nat) (t : xT α n) (u : xT β n) (i : Nat), i < 2 ^ n → x2 α β P n t u → P (xget α n t i) (xget β n u i) := by
  intro n
  induction n with
  | zero => intro t u i _ h; exact h
  | succ n ih =>
    intro t u i hi h
    have hp : 2 ^ (n + 1) = 2 ^ n + 2 ^ n := by rw [Nat.pow_succ]; omega
    have e1 : xget α (n + 1) t i = cond (Nat.ble (2 ^ n) i) (xget α n (@Prod.snd (xT α n) (xT α n) t) (i - 2 ^ n)) (xget α n (@Prod.fst (xT α n) (xT α n) t) i) := rfl
    have e2 : xget β (n + 1) u i = cond (Nat.ble (2 ^ n) i) (xget β n (@Prod.snd (xT β n) (xT β n) u) (i - 2 ^ n)) (xget β n (@Prod.fst (xT β n) (xT β n) u) i) := rfl
    rw [e1, e2]
    cases hb : Nat.ble (2 ^ n) i with
    | true =>
      have := Nat.le_of_ble_eq_true hb
      exact ih _ _ _ (by omega) h.2
    | false =>
      have : ¬ 2 ^ n ≤ i := fun q => by rw [Nat.ble_eq_true_of_le q] at hb; cases hb
      exact ih _ _ _ (by omega) h.1
theorem tk_0 : x2 eF eK e_PK 3 opT_0 ckT_0 := ⟨⟨⟨tt_no, tt_iconst⟩, ⟨tt_bipush, tt_sipush⟩⟩, ⟨⟨tt_ldc, tt_ldcw⟩, ⟨tt_lconst, tt_ldc2⟩⟩⟩
theorem tk_1 : x2 eF eK e_PK 3 opT_1 ckT_1 := ⟨⟨⟨tt_ldcs, tt_kget⟩, ⟨tt_iload_n, tt_iload⟩⟩, ⟨⟨tt_lload_n, tt_lload⟩, ⟨tt_aload_n, tt_aload⟩⟩⟩
theorem tk_2 : x2 eF eK e_PK 3 opT_2 ckT_2 := ⟨⟨⟨tt_istore_n, tt_istore⟩, ⟨tt_lstore_n, tt_lstore⟩⟩, ⟨⟨tt_astore_n, tt_astore⟩, ⟨tt_iinc, tt_kald⟩⟩⟩
theorem tk_3 : x2 eF eK e_PK 3 opT_3 ckT_3 := ⟨⟨⟨tt_ineg, tt_idiv⟩, ⟨tt_irem, tt_no⟩⟩, ⟨⟨tt_no, tt_no⟩, ⟨tt_iadd, tt_isub⟩⟩⟩
theorem tk_4 : x2 eF eK e_PK 3 opT_4 ckT_4 := ⟨⟨⟨tt_imul, tt_iand⟩, ⟨tt_ior, tt_ixor⟩⟩, ⟨⟨tt_ishl, tt_ishr⟩, ⟨tt_iushr, tt_no⟩⟩⟩
theorem tk_5 : x2 eF eK e_PK 3 opT_5 ckT_5 := ⟨⟨⟨tt_no, tt_ladd⟩, ⟨tt_lsub, tt_land⟩⟩, ⟨⟨tt_lor, tt_lxor⟩, ⟨tt_lshl, tt_lushr⟩⟩⟩
theorem tk_6 : x2 eF eK e_PK 3 opT_6 ckT_6 := ⟨⟨⟨tt_i2l, tt_l2i⟩, ⟨tt_i2b, tt_lcmp⟩⟩, ⟨⟨tt_dup, tt_pop⟩, ⟨tt_dup2, tt_no⟩⟩⟩
theorem tk_7 : x2 eF eK e_PK 3 opT_7 ckT_7 := ⟨⟨⟨tt_no, tt_no⟩, ⟨tt_no, tt_no⟩⟩, ⟨⟨tt_goto, tt_if_eq⟩, ⟨tt_if_ne, tt_if_lt⟩⟩⟩
theorem tk_8 : x2 eF eK e_PK 3 opT_8 ckT_8 := ⟨⟨⟨tt_if_ge, tt_if_gt⟩, ⟨tt_if_le, tt_icmp_eq⟩⟩, ⟨⟨tt_icmp_ne, tt_icmp_lt⟩, ⟨tt_icmp_ge, tt_icmp_gt⟩⟩⟩
theorem tk_9 : x2 eF eK e_PK 3 opT_9 ckT_9 := ⟨⟨⟨tt_icmp_le, tt_table⟩, ⟨tt_iret, tt_lret⟩⟩, ⟨⟨tt_aret, tt_ret⟩, ⟨tt_no, tt_no⟩⟩⟩
theorem tk_10 : x2 eF eK e_PK 3 opT_10 ckT_10 := ⟨⟨⟨tt_getf, tt_putf⟩, ⟨tt_putfF, tt_iald⟩⟩, ⟨⟨tt_lald, tt_bald⟩, ⟨tt_aald, tt_rald⟩⟩⟩
theorem tk_11 : x2 eF eK e_PK 3 opT_11 ckT_11 := ⟨⟨⟨tt_iast, tt_last⟩, ⟨tt_bast, tt_aast⟩⟩, ⟨⟨tt_alen, tt_newa⟩, ⟨tt_anew, tt_mnew⟩⟩⟩
theorem tk_12 : x2 eF eK e_PK 3 opT_12 ckT_12 := ⟨⟨⟨tt_new, tt_sald⟩, ⟨tt_slen, tt_no⟩⟩, ⟨⟨tt_callv, tt_calli⟩, ⟨tt_call, tt_oinit⟩⟩⟩
theorem tk_13 : x2 eF eK e_PK 3 opT_13 ckT_13 := ⟨⟨⟨tt_callin, tt_throw⟩, ⟨tt_no, tt_no⟩⟩, ⟨⟨tt_no, tt_copyI⟩, ⟨tt_copyL, tt_callc⟩⟩⟩
theorem tk_14 : x2 eF eK e_PK 3 opT_14 ckT_14 := ⟨⟨⟨tt_throww, tt_callx⟩, ⟨tt_min, tt_calls⟩⟩, ⟨⟨tt_no, tt_no⟩, ⟨tt_no, tt_no⟩⟩⟩
theorem tk_15 : x2 eF eK e_PK 3 opT_15 ckT_15 := ⟨⟨⟨tt_no, tt_no⟩, ⟨tt_no, tt_no⟩⟩, ⟨⟨tt_no, tt_no⟩, ⟨tt_no, tt_no⟩⟩⟩
theorem tk : x2 eF eK e_PK 7 opT ckT := ⟨⟨⟨⟨tk_0, tk_1⟩, ⟨tk_2, tk_3⟩⟩, ⟨⟨tk_4, tk_5⟩, ⟨tk_6, tk_7⟩⟩⟩, ⟨⟨⟨tk_8, tk_9⟩, ⟨tk_10, tk_11⟩⟩, ⟨⟨tk_12, tk_13⟩, ⟨tk_14, tk_15⟩⟩⟩⟩
/-- a row is right -/
noncomputable def kR (y pc : Nat) (i : eI) : Bool := match i with
  | (op, a, b, c, dd) => cond (Nat.beq op 0) true (xget eK 7 ckT op y pc a b c dd)
theorem e_Ok_of {y : Nat} {t : xT eI 11} (h : xall eI (kR y) 11 t 0 = true) : e_Ok opT t y := by
  intro d pc op a b c dd hpc hop hget
  have h1 := xall_get 11 t 0 pc hpc h
  rw [Nat.zero_add, hget] at h1
  have h2 : cond (Nat.beq op 0) true (xget eK 7 ckT op y pc a b c dd) = true := h1
  cases hb : Nat.beq op 0 with
  | true =>
    have := nb hb
    subst this
    exact s_no (a := a) (b := b) (c9 := c)
  | false =>
    rw [hb] at h2
    exact x2_get 7 opT ckT op hop tk y pc d a b c dd h2
