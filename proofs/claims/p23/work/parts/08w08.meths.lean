/-! ===== written by program (wip/layer2/all.py): contracts of methods ===== -/
def fm_m233_138 : Nat := 0
/-- IslandHall$Tale.keeping -/
theorem m233_138 {B : eB} (d : Nat) (M0 : Mm) (hP0 : Pw M0)  : Ct B (d + 1) 233 [R 138] M0 (qR fun z M => Pw M ∧ Fr fm_m233_138 M0 M ∧ 155 ≤ z ∧ z ≤ 155) := by
  refine ct_of (d := d + 0) (k := 0) (L := [some (R 138)]) rfl rfl rfl ?_
  have hF0 := Fr.rf fm_m233_138 M0
  generalize hQ : (qR fun z M => Pw M ∧ Fr fm_m233_138 M0 M ∧ 155 ≤ z ∧ z ≤ 155) = Q
  refine wk_al0 r233_0 (wk_getfr r233_1 fd_138_3 (br_138_3 hP0) (wk_c1 r233_4 (wk_raldb r233_5 ar_154 (by decide) (fun q0 q1 => ba_154 hP0 q0 q1) ?_)))
  subst hQ; exact wk_aret r233_6 (⟨rfl, _, rfl, hP0, hF0, by omega, by omega⟩)
def lbF_g (p0 : Nat) : Int :=
  let n1 : Nat := p0 / 2 ^ Int.toNat (1)
  let n4 : Nat := (n1 &&& 6148914691236517205) % 18446744073709551616
  let n9 : Nat := (p0 + (18446744073709551616 - n4)) % 18446744073709551616
  let n12 : Nat := (n9 &&& 3689348814741910323) % 18446744073709551616
  let n17 : Nat := n9 / 2 ^ Int.toNat (2)
  let n20 : Nat := (n17 &&& 3689348814741910323) % 18446744073709551616
  let n25 : Nat := (n12 + n20) % 18446744073709551616
  let n28 : Nat := n25 / 2 ^ Int.toNat (4)
  let n31 : Nat := (n25 + n28) % 18446744073709551616
  let n34 : Nat := (n31 &&& 1085102592571150095) % 18446744073709551616
  let n39 : Nat := n34 / 2 ^ Int.toNat (8)
  let n42 : Nat := (n34 + n39) % 18446744073709551616
  let n45 : Nat := n42 / 2 ^ Int.toNat (16)
  let n48 : Nat := (n42 + n45) % 18446744073709551616
  let n51 : Nat := n48 / 2 ^ Int.toNat (32)
  let n54 : Nat := (n48 + n51) % 18446744073709551616
  let v57 : Int := ((n54 : Int) + 2147483648) % 4294967296 - 2147483648
  (v57 % 128)
theorem lbF_ex : ∃ f : Nat → Int, ∀ p0, f p0 = lbF_g p0 := ⟨lbF_g, fun _ => rfl⟩
noncomputable def lbF : Nat → Int := Classical.choose lbF_ex
theorem lbF_eq (p0 : Nat) : lbF p0 = lbF_g p0 := Classical.choose_spec lbF_ex p0
theorem lbF_t : (List.range 64).all (fun t => decide (lbF_g (2 ^ t - 1) = (t : Int))) = true := by decide +kernel
theorem tz_b {n r1 r2 r : Nat} (h0 : 0 < n) (hn : n < 18446744073709551616) (e1 : r1 = (n ^^^ 18446744073709551615) % 18446744073709551616) (e2 : r2 = (n + (18446744073709551616 - 1)) % 18446744073709551616) (e : r = (r1 &&& r2) % 18446744073709551616) : 0 ≤ lbF r ∧ lbF r ≤ 63 ∧ (n ≤ 17592186044415 → lbF r ≤ 43) := by
  obtain ⟨t, k, ht⟩ := tz_ex n h0
  have h1 := tz_bits ht hn
  have hx : n ^^^ 18446744073709551615 < 18446744073709551616 := Nat.xor_lt_two_pow (n := 64) hn (by decide)
  have q1 : r1 = n ^^^ 18446744073709551615 := by rw [e1, Nat.mod_eq_of_lt hx]
  have q2 : r2 = n - 1 := by omega
  have q3 : r1 &&& r2 = 2 ^ t - 1 := by rw [q1, q2]; exact h1
  have hle : 2 ^ t ≤ n := by
    rw [ht]
    exact Nat.le_mul_of_pos_right _ (by omega)
  have q4 : r = 2 ^ t - 1 := by rw [e, q3, Nat.mod_eq_of_lt (by omega)]
  have t64 : t < 64 := (Nat.pow_lt_pow_iff_right (a := 2) (by decide)).mp (Nat.lt_of_le_of_lt hle hn)
  have h2 := of_decide_eq_true (List.all_eq_true.mp lbF_t t (List.mem_range.mpr t64))
  rw [q4, lbF_eq, h2]
  exact tz_fin t64 _ (fun q => (Nat.pow_lt_pow_iff_right (a := 2) (by decide)).mp (Nat.lt_of_le_of_lt hle (Nat.lt_succ_of_le q)))
def fm_m245 : Nat := 0
/-- java/lang/Long.bitCount -/
theorem m245 {B : eB} (d : Nat) (M0 : Mm) (p0 : Nat) (hP0 : Pw M0) (l0 : p0 < 18446744073709551616) : Ct B (d + 1) 245 [J p0] M0 (qI fun z M => Pw M ∧ Fr fm_m245 M0 M ∧ 0 ≤ z ∧ z ≤ 127 ∧ (z = lbF p0)) := by
  refine ct_of (d := d + 0) (k := 0) (L := [some (J p0), none]) rfl rfl rfl ?_
  have hF0 := Fr.rf fm_m245 M0
  generalize hQ : (qI fun z M => Pw M ∧ Fr fm_m245 M0 M ∧ 0 ≤ z ∧ z ≤ 127 ∧ (z = lbF p0)) = Q
  refine wk_ll0 r245_0 (wk_ll0 r245_1 (wk_c1 r245_2 (wk_lushrb r245_3 (by omega) (by decide) ?_)))
  intro n1 h2 h3
  refine wk_c7 r245_4 (wk_land r245_7 ?_)
  intro n4 h5 h6 h7 h8
  refine wk_lsubb r245_8 (by omega) ?_
  intro n9 h11 h10
  refine wk_ls0 r245_9 (wk_ll0 r245_10 (wk_c7 r245_11 (wk_land r245_14 ?_)))
  intro n12 h13 h14 h15 h16
  refine wk_ll0 r245_15 (wk_c1 r245_16 (wk_lushrb r245_17 (by omega) (by decide) ?_))
  intro n17 h18 h19
  refine wk_c7 r245_18 (wk_land r245_21 ?_)
  intro n20 h21 h22 h23 h24
  refine wk_laddb r245_22 ?_
  intro n25 h27 h26
  refine wk_ls0 r245_23 (wk_ll0 r245_24 (wk_ll0 r245_25 (wk_c1 r245_26 (wk_lushrb r245_27 (by omega) (by decide) ?_))))
  intro n28 h29 h30
  refine wk_laddb r245_28 ?_
  intro n31 h33 h32
  refine wk_c7 r245_29 (wk_land r245_32 ?_)
  intro n34 h35 h36 h37 h38
  refine wk_ls0 r245_33 (wk_ll0 r245_34 (wk_ll0 r245_35 (wk_c2 r245_36 (wk_lushrb r245_38 (by omega) (by decide) ?_))))
  intro n39 h40 h41
  refine wk_laddb r245_39 ?_
  intro n42 h44 h43
  refine wk_ls0 r245_40 (wk_ll0 r245_41 (wk_ll0 r245_42 (wk_c2 r245_43 (wk_lushrb r245_45 (by omega) (by decide) ?_))))
  intro n45 h46 h47
  refine wk_laddb r245_46 ?_
  intro n48 h50 h49
  refine wk_ls0 r245_47 (wk_ll0 r245_48 (wk_ll0 r245_49 (wk_c2 r245_50 (wk_lushrb r245_52 (by omega) (by decide) ?_))))
  intro n51 h52 h53
  refine wk_laddb r245_53 ?_
  intro n54 h56 h55
  refine wk_ls0 r245_54 (wk_ll0 r245_55 (wk_l2i r245_56 (wk_wrap ?_)))
  intro v57 h58 h59 h60
  refine wk_c2 r245_57 (wk_iandc 7 128 r245_59 ⟨rfl, by decide⟩ rfl ?_)
  subst hQ; exact wk_iret r245_60 (⟨rfl, _, rfl, hP0, hF0, by omega, by omega, by rw [lbF_eq]; subst_vars; rfl⟩)
def fm_m194_10_f155 : Nat := 0
/-- IslandHall$Realm.howMany -/
theorem m194_10_f155 {B : eB} (d : Nat) (M0 : Mm) (a1 : Int) (hP0 : Pw M0) (ha1 : 155 ≤ a1) (hb1 : a1 ≤ 167) : Ct B (d + 2) 194 [R 10, R a1] M0 (qI fun z M => Pw M ∧ Fr fm_m194_10_f155 M0 M ∧ (-2147483648) ≤ z ∧ z ≤ 2147483647) := by
  refine ct_of (d := d + 1) (k := 2) (L := [some (R 10), some (R a1), none, none]) rfl rfl rfl ?_
  have hF0 := Fr.rf fm_m194_10_f155 M0
  generalize hQ : (qI fun z M => Pw M ∧ Fr fm_m194_10_f155 M0 M ∧ (-2147483648) ≤ z ∧ z ≤ 2147483647) = Q
  refine wk_c1 r194_0 (wk_is2 r194_1 rfl (wk_c1 r194_2 (wk_is3 r194_3 rfl ?_)))
  have c4_279 : ∀ (k279 : Nat) (v251 : Int) (v254 : Int), (47 - v254).toNat = k279 → (-2147483648) ≤ v251 → v251 ≤ 2147483647 → 0 ≤ v254 → v254 ≤ 47 → Wp B (d + 1) 194 4 [some (R 10), some (R a1), some (I v251), some (I v254)] [] M0 Q := by
    refine lp_ind ?_
    intro k279 ih279 v251 v254 hk279 h252 h253 h255 h256
    refine wk_il3 r194_4 (wk_al0 r194_5 (wk_getfb r194_6 fd_10_10 (bf_10_10 hP0) ?_))
    intro v257 h259 h260 e258
    refine wk_icge r194_9 ⟨by omega, by omega⟩ ⟨by omega, by omega⟩ ?_ ?_
    · intro h261
      refine wk_il2 r194_27 ?_
      subst hQ; exact wk_iret r194_28 (⟨rfl, _, rfl, hP0, hF0, by omega, by omega⟩)
    · intro h262
      refine wk_il2 r194_12 (wk_al1 r194_13 (wk_il3 r194_14 (wk_laldb r194_15 (arF_155 (by omega) (by omega)) ⟨by omega, by omega⟩ (fun q0 q1 => baF_155 hP0 (by omega) (by omega) q0 q1) (by decide) ?_)))
      intro n263 h265 h266 e264
      refine wk_cs102_1 r194_16 rfl (m245 _ M0 n263 hP0 (by omega)) (cqI ?_)
      rintro v272 M267 ⟨hP268, hQ269, h273, h274, xh271⟩
      obtain rfl := Fr.same hQ269
      refine wk_iadd r194_19 (wk_wrap ?_)
      intro v275 h276 h277 h278
      refine wk_is2 r194_20 rfl (wk_inc3 r194_21 rfl (wk_goto r194_24 ?_))
      exact wp_fg (le_s (le_s (le_s (le_s le_0)))) (ih279 (47 - (v254 + 1)).toNat (by omega) v275 (v254 + 1) rfl (by omega) (by omega) (by omega) (by omega))
  exact wp_fg (le_s (le_s (le_s (le_s le_0)))) (c4_279 _ 0 0 rfl (by omega) (by omega) (by omega) (by omega))
def fm_m43_0 : Nat := 0
/-- IslandHall.worlds -/
theorem m43_0 {B : eB} (d : Nat) (M0 : Mm) (p1 : Int) (hP0 : Pw M0) (l1 : (-2147483648) ≤ p1) (u1 : p1 ≤ 2147483647) : Ct B (d + 3) 43 [R 0, I p1] M0 (qX 0 (fun M => Pw M ∧ Fr (fm_m43_0 ||| 1) M0 M ∧ M (-1) 0 = M0 (-1) 0 + 1) (qI fun z M => Pw M ∧ Fr fm_m43_0 M0 M ∧ (-2147483648) ≤ z ∧ z ≤ 2147483647)) := by
  refine ct_of (d := d + 2) (k := 0) (L := [some (R 0), some (I p1)]) rfl rfl rfl ?_
  have hF0 := Fr.rf fm_m43_0 M0
  generalize hQ : (qX 0 (fun M => Pw M ∧ Fr (fm_m43_0 ||| 1) M0 M ∧ M (-1) 0 = M0 (-1) 0 + 1) (qI fun z M => Pw M ∧ Fr fm_m43_0 M0 M ∧ (-2147483648) ≤ z ∧ z ≤ 2147483647)) = Q
  refine wk_il1 r43_0 ?_
  refine wk_ifeq r43_1 ⟨by omega, by omega⟩ ?_ ?_
  · intro h1
    refine wk_al0 r43_19 (wk_getfr r43_20 fd_0_6 (br_0_6 hP0) (wk_il1 r43_23 ?_))
    refine wk_ifne r43_24 ⟨by omega, by omega⟩ ?_ ?_
    · intro h2
      exfalso
      omega
    · intro h3
      refine wk_al0 r43_27 (wk_getfr r43_28 fd_0_7 (br_0_7 hP0) (wk_cv1 r43_31 kc_138_233 rfl (m233_138 _ M0 hP0) (cqR ?_)))
      rintro v8 M4 ⟨hP5, hQ6, h9, h10⟩
      obtain rfl : v8 = 155 := by omega
      obtain rfl := Fr.same hQ6
      refine wk_goto r43_34 (wk_cv2 r43_44 kc_10_194 rfl (m194_10_f155 _ M0 155 hP0 (by omega) (by omega)) (cqI ?_))
      rintro v15 M11 ⟨hP12, hQ13, h16, h17⟩
      obtain rfl := Fr.same hQ13
      subst hQ; exact wk_iret r43_47 (Or.inr ⟨rfl, _, rfl, hP0, hF0, by omega, by omega⟩)
  · intro h18
    refine wk_il1 r43_4 (wk_c1 r43_5 ?_)
    refine wk_iceq r43_6 ⟨by omega, by omega⟩ (by decide) ?_ ?_
    · intro h19
      refine wk_al0 r43_19 (wk_getfr r43_20 fd_0_6 (br_0_6 hP0) (wk_il1 r43_23 ?_))
      refine wk_ifne r43_24 ⟨by omega, by omega⟩ ?_ ?_
      · intro h20
        refine wk_al0 r43_37 (wk_getfr r43_38 fd_0_7 (br_0_7 hP0) (wk_cv1 r43_41 kc_138_229 rfl (m229_138 _ M0 hP0) (cqR ?_)))
        rintro v25 M21 ⟨hP22, hQ23, h26, h27⟩
        obtain rfl := Fr.same hQ23
        refine wk_cv2 r43_44 kc_10_194 rfl (m194_10_f155 _ M0 v25 hP0 (by omega) (by omega)) (cqI ?_)
        rintro v32 M28 ⟨hP29, hQ30, h33, h34⟩
        obtain rfl := Fr.same hQ30
        subst hQ; exact wk_iret r43_47 (Or.inr ⟨rfl, _, rfl, hP0, hF0, by omega, by omega⟩)
      · intro h35
        exfalso
        omega
    · intro h36
      subst hQ; exact wk_thr105 r43_9 rfl (Or.inl ⟨rfl, hP0.thr, (Fr.thr hF0), (by rw [mUp_eq, hF0.at g_below rfl])⟩)
def fm_m191_f155v8 : Nat := 0
/-- IslandHall$Realm.holds -/
theorem m191_f155v8 {B : eB} (d : Nat) (M0 : Mm) (a0 : Int) (p1 : Int) (hP0 : Pw M0) (ha0 : 155 ≤ a0) (hb0 : a0 ≤ 167) (l1 : 0 ≤ p1) (u1 : p1 ≤ 2999) : Ct B (d + 1) 191 [R a0, I p1] M0 (qI fun z M => Pw M ∧ Fr fm_m191_f155v8 M0 M ∧ 0 ≤ z ∧ z ≤ 1) := by
  refine ct_of (d := d + 0) (k := 0) (L := [some (R a0), some (I p1)]) rfl rfl rfl ?_
  have hF0 := Fr.rf fm_m191_f155v8 M0
  generalize hQ : (qI fun z M => Pw M ∧ Fr fm_m191_f155v8 M0 M ∧ 0 ≤ z ∧ z ≤ 1) = Q
  refine wk_al0 r191_0 (wk_il1 r191_1 (wk_c2 r191_2 (wk_ishrc r191_4 ⟨by omega, by omega⟩ (by decide) pwl_6 (wk_laldb r191_5 (arF_155 (by omega) (by omega)) ⟨by omega, by omega⟩ (fun q0 q1 => baF_155 hP0 (by omega) (by omega) q0 q1) (by decide) ?_))))
  intro n2 h4 h5 e3
  refine wk_il1 r191_6 (wk_c2 r191_7 (wk_iandc 6 64 r191_9 ⟨rfl, by decide⟩ rfl (wk_lushrb r191_10 (by omega) ⟨by omega, by omega⟩ ?_)))
  intro n6 h7 h8
  refine wk_c6 r191_11 (wk_land r191_12 ?_)
  intro n9 h10 h11 h12 h13
  refine wk_c6 r191_13 ?_
  refine wk_lcmp r191_14 (by omega) (by omega) ?_ ?_
  · intro h14
    refine wk_ifne r191_15 (by decide) ?_ ?_
    · intro h20
      exfalso
      omega
    · intro h21
      refine wk_c1 r191_18 (wk_goto r191_19 ?_)
      subst hQ; exact wk_zret r191_23 (by decide) (⟨rfl, _, rfl, hP0, hF0, by omega, by omega⟩)
  · intro h15 v19 h16 h17 h18
    refine wk_ifne r191_15 ⟨by omega, by omega⟩ ?_ ?_
    · intro h22
      refine wk_c1 r191_22 ?_
      subst hQ; exact wk_zret r191_23 (by decide) (⟨rfl, _, rfl, hP0, hF0, by omega, by omega⟩)
    · intro h23
      exfalso
      omega
def fm_m201_10_f155 : Nat := 0
/-- IslandHall$Realm.pick -/
theorem m201_10_f155 {B : eB} (d : Nat) (M0 : Mm) (a1 : Int) (p2 : Int) (hP0 : Pw M0) (ha1 : 155 ≤ a1) (hb1 : a1 ≤ 167) (l2 : (-2147483648) ≤ p2) (u2 : p2 ≤ 2147483647) : Ct B (d + 2) 201 [R 10, R a1, I p2] M0 (qI fun z M => Pw M ∧ Fr fm_m201_10_f155 M0 M ∧ (-1) ≤ z ∧ z ≤ 2999) := by
  refine ct_of (d := d + 1) (k := 2) (L := [some (R 10), some (R a1), some (I p2), none, none]) rfl rfl rfl ?_
  have hF0 := Fr.rf fm_m201_10_f155 M0
  generalize hQ : (qI fun z M => Pw M ∧ Fr fm_m201_10_f155 M0 M ∧ (-1) ≤ z ∧ z ≤ 2999) = Q
  refine wk_il2 r201_0 ?_
  refine wk_ifge r201_1 ⟨by omega, by omega⟩ ?_ ?_
  · intro h1
    refine wk_c1 r201_6 (wk_is3 r201_7 rfl (wk_c1 r201_8 (wk_is4 r201_9 rfl ?_)))
    have c11_243 : ∀ (k243 : Nat) (v219 : Int) (v222 : Int), (3000 - v222).toNat = k243 → 0 ≤ v219 → v219 ≤ 3000 → 0 ≤ v222 → v222 ≤ 3000 → 0 ≤ (-1) * v219 + v222 + 0 → Wp B (d + 1) 201 11 [some (R 10), some (R a1), some (I p2), some (I v219), some (I v222)] [] M0 Q := by
      refine lp_ind ?_
      intro k243 ih243 v219 v222 hk243 h220 h221 h223 h224 h225
      refine wk_il4 r201_11 (wk_al0 r201_13 (wk_getfb r201_14 fd_10_9 (bf_10_9 hP0) ?_))
      intro v226 h228 h229 e227
      refine wk_icge r201_17 ⟨by omega, by omega⟩ ⟨by omega, by omega⟩ ?_ ?_
      · intro h230
        refine wk_c1 r201_46 ?_
        subst hQ; exact wk_iret r201_47 (⟨rfl, _, rfl, hP0, hF0, by omega, by omega⟩)
      · intro h231
        refine wk_al1 r201_20 (wk_il4 r201_21 (wk_cs102_2 r201_23 rfl (m191_f155v8 _ M0 a1 v222 hP0 (by omega) (by omega) (by omega) (by omega)) (cqI ?_)))
        rintro v236 M232 ⟨hP233, hQ234, h237, h238⟩
        obtain rfl := Fr.same hQ234
        refine wk_ifeq r201_26 ⟨by omega, by omega⟩ ?_ ?_
        · intro h239
          refine wk_inc4 r201_40 rfl (wk_goto r201_43 ?_)
          exact wp_fg (le_s (le_s (le_s (le_s (le_s le_0))))) (ih243 (3000 - (v222 + 1)).toNat (by omega) v219 (v222 + 1) rfl (by omega) (by omega) (by omega) (by omega) (by omega))
        · intro h240
          refine wk_il3 r201_29 (wk_il2 r201_30 ?_)
          refine wk_icne r201_31 ⟨by omega, by omega⟩ ⟨by omega, by omega⟩ ?_ ?_
          · intro h241
            refine wk_inc3 r201_37 rfl (wk_inc4 r201_40 rfl (wk_goto r201_43 ?_))
            exact wp_fg (le_s (le_s (le_s (le_s (le_s le_0))))) (ih243 (3000 - (v222 + 1)).toNat (by omega) (v219 + 1) (v222 + 1) rfl (by omega) (by omega) (by omega) (by omega) (by omega))
          · intro h242
            refine wk_il4 r201_34 ?_
            subst hQ; exact wk_iret r201_36 (⟨rfl, _, rfl, hP0, hF0, by omega, by omega⟩)
    exact wp_fg (le_s (le_s (le_s (le_s (le_s le_0))))) (c11_243 _ 0 0 rfl (by omega) (by omega) (by omega) (by omega) (by omega))
  · intro h244
    refine wk_c1 r201_4 ?_
    subst hQ; exact wk_iret r201_5 (⟨rfl, _, rfl, hP0, hF0, by omega, by omega⟩)
def fm_m186_10v3 : Nat := 0
/-- IslandHall$Realm.answerAt -/
theorem m186_10v3 {B : eB} (d : Nat) (M0 : Mm) (p1 : Int) (p2 : Int) (hP0 : Pw M0) (l1 : 0 ≤ p1) (u1 : p1 ≤ 2999) (l2 : 1 ≤ p2) (u2 : p2 ≤ 3) : Ct B (d + 1) 186 [R 10, I p1, I p2] M0 (qI fun z M => Pw M ∧ Fr fm_m186_10v3 M0 M ∧ 0 ≤ z ∧ z ≤ 7) := by
  refine ct_of (d := d + 0) (k := 0) (L := [some (R 10), some (I p1), some (I p2)]) rfl rfl rfl ?_
  have hF0 := Fr.rf fm_m186_10v3 M0
  generalize hQ : (qI fun z M => Pw M ∧ Fr fm_m186_10v3 M0 M ∧ 0 ≤ z ∧ z ≤ 7) = Q
  refine wk_il2 r186_0 ?_
  refine wk_sw8 r186_1 ⟨by omega, by omega⟩ ?_ ?_ ?_ ?_
  · intro h1
    exfalso
    omega
  · intro h2
    refine wk_al0 r186_28 (wk_getfr r186_29 fd_10_1 (br_10_1 hP0) (wk_il1 r186_32 (wk_ialdb r186_33 ar_136 ⟨by omega, by omega⟩ (fun q0 q1 => ba_136 hP0 q0 q1) ?_)))
    intro v3 h5 h6 e4
    refine wk_c2 r186_34 (wk_ishrc r186_36 ⟨by omega, by omega⟩ (by decide) pwl_21 (wk_c1 r186_37 (wk_iandc 2 4 r186_38 ⟨rfl, by decide⟩ rfl ?_)))
    subst hQ; exact wk_iret r186_39 (⟨rfl, _, rfl, hP0, hF0, by omega, by omega⟩)
  · intro h9
    refine wk_al0 r186_40 (wk_getfr r186_41 fd_10_1 (br_10_1 hP0) (wk_il1 r186_44 (wk_ialdb r186_45 ar_136 ⟨by omega, by omega⟩ (fun q0 q1 => ba_136 hP0 q0 q1) ?_)))
    intro v10 h12 h13 e11
    refine wk_c2 r186_46 (wk_ishrc r186_48 ⟨by omega, by omega⟩ (by decide) pwl_23 (wk_c2 r186_49 (wk_iandc 3 8 r186_51 ⟨rfl, by decide⟩ rfl ?_)))
    subst hQ; exact wk_iret r186_52 (⟨rfl, _, rfl, hP0, hF0, by omega, by omega⟩)
  · intro h16
    refine wk_al0 r186_53 (wk_getfr r186_54 fd_10_1 (br_10_1 hP0) (wk_il1 r186_57 (wk_ialdb r186_58 ar_136 ⟨by omega, by omega⟩ (fun q0 q1 => ba_136 hP0 q0 q1) ?_)))
    intro v17 h19 h20 e18
    refine wk_c2 r186_59 (wk_ishrc r186_61 ⟨by omega, by omega⟩ (by decide) pwl_26 (wk_c1 r186_62 (wk_iandc 1 2 r186_63 ⟨rfl, by decide⟩ rfl ?_)))
    subst hQ; exact wk_iret r186_64 (⟨rfl, _, rfl, hP0, hF0, by omega, by omega⟩)
def fm_m42_0 : Nat := 0
/-- IslandHall.world -/
theorem m42_0 {B : eB} (d : Nat) (M0 : Mm) (p1 : Int) (p2 : Int) (hP0 : Pw M0) (l1 : (-2147483648) ≤ p1) (u1 : p1 ≤ 2147483647) (l2 : (-2147483648) ≤ p2) (u2 : p2 ≤ 2147483647) : Ct B (d + 3) 42 [R 0, I p1, I p2] M0 (qX 0 (fun M => Pw M ∧ Fr (fm_m42_0 ||| 1) M0 M ∧ M (-1) 0 = M0 (-1) 0 + 1) (qI fun z M => Pw M ∧ Fr fm_m42_0 M0 M ∧ 0 ≤ z ∧ z ≤ 7)) := by
  refine ct_of (d := d + 2) (k := 1) (L := [some (R 0), some (I p1), some (I p2), none]) rfl rfl rfl ?_
  have hF0 := Fr.rf fm_m42_0 M0
  generalize hQ : (qX 0 (fun M => Pw M ∧ Fr (fm_m42_0 ||| 1) M0 M ∧ M (-1) 0 = M0 (-1) 0 + 1) (qI fun z M => Pw M ∧ Fr fm_m42_0 M0 M ∧ 0 ≤ z ∧ z ≤ 7)) = Q
  refine wk_al0 r42_0 (wk_getfr r42_1 fd_0_6 (br_0_6 hP0) (wk_al0 r42_4 (wk_getfr r42_5 fd_0_7 (br_0_7 hP0) (wk_cv1 r42_8 kc_138_229 rfl (m229_138 _ M0 hP0) (cqR ?_)))))
  rintro v5 M1 ⟨hP2, hQ3, h6, h7⟩
  obtain rfl := Fr.same hQ3
  refine wk_il1 r42_11 (wk_cv3 r42_12 kc_10_201 rfl (m201_10_f155 _ M0 v5 p1 hP0 (by omega) (by omega) (by omega) (by omega)) (cqI ?_))
  rintro v12 M8 ⟨hP9, hQ10, h13, h14⟩
  obtain rfl := Fr.same hQ10
  refine wk_is3 r42_15 rfl (wk_il3 r42_16 (wk_c1 r42_17 ?_))
  refine wk_icne r42_18 ⟨by omega, by omega⟩ (by decide) ?_ ?_
  · intro h15
    refine wk_il2 r42_31 ?_
    have c56_60 : Wp B (d + 2) 42 56 [some (R 0), none, some (I p2), some (I v12)] [] M0 Q := by
      refine wk_il2 r42_56 (wk_c2 r42_57 ?_)
      have c98_59 : Wp B (d + 2) 42 98 [some (R 0), none, some (I p2), some (I v12)] [] M0 Q := by
        refine wk_il2 r42_98 (wk_c2 r42_99 ?_)
        refine wk_iclt r42_101 ⟨by omega, by omega⟩ (by decide) ?_ ?_
        · intro h48
          subst hQ; exact wk_thr105 r42_110 rfl (Or.inl ⟨rfl, hP0.thr, (Fr.thr hF0), (by rw [mUp_eq, hF0.at g_below rfl])⟩)
        · intro h49
          refine wk_il2 r42_104 (wk_c2 r42_105 ?_)
          refine wk_icle r42_107 ⟨by omega, by omega⟩ (by decide) ?_ ?_
          · intro h50
            refine wk_al0 r42_120 (wk_getfr r42_121 fd_0_6 (br_0_6 hP0) (wk_il3 r42_124 (wk_il2 r42_125 (wk_c2 r42_126 (wk_isub r42_128 (wk_c1 r42_129 (wk_iadd r42_130 (wk_cv3 r42_131 kc_10_186 rfl (m186_10v3 _ M0 v12 ((p2 - 16) + 1) hP0 (by omega) (by omega) (by omega) (by omega)) (cqI ?_)))))))))
            rintro v55 M51 ⟨hP52, hQ53, h56, h57⟩
            obtain rfl := Fr.same hQ53
            subst hQ; exact wk_iret r42_134 (Or.inr ⟨rfl, _, rfl, hP0, hF0, by omega, by omega⟩)
          · intro h58
            subst hQ; exact wk_thr105 r42_110 rfl (Or.inl ⟨rfl, hP0.thr, (Fr.thr hF0), (by rw [mUp_eq, hF0.at g_below rfl])⟩)
      refine wk_iclt r42_59 ⟨by omega, by omega⟩ (by decide) ?_ ?_
      · intro h31
        exact wp_fg (le_s (le_s (le_s (le_s le_0)))) c98_59
      · intro h32
        refine wk_il2 r42_62 (wk_c2 r42_63 (wk_al0 r42_65 (wk_getfr r42_66 fd_0_2 (br_0_2 hP0) (wk_getfb r42_69 fd_2_1 (bf_2_1 hP0) ?_))))
        intro v33 h35 h36 e34
        refine wk_iadd r42_72 ?_
        refine wk_icge r42_73 ⟨by omega, by omega⟩ ⟨by omega, by omega⟩ ?_ ?_
        · intro h37
          exact wp_fg (le_s (le_s (le_s (le_s le_0)))) c98_59
        · intro h38
          refine wk_al0 r42_76 (wk_getfr r42_77 fd_0_6 (br_0_6 hP0) (wk_il3 r42_80 (wk_il2 r42_81 (wk_c2 r42_82 (wk_isub r42_84 (wk_cv3 r42_85 kc_10_188 rfl (m188_10 _ M0 v12 (p2 - 8) hP0 (by omega) (by omega) (by omega) (by omega)) (cqI ?_)))))))
          rintro v43 M39 ⟨hP40, hQ41, h44, h45⟩
          obtain rfl := Fr.same hQ41
          refine wk_c1 r42_88 ?_
          refine wk_icne r42_89 ⟨by omega, by omega⟩ (by decide) ?_ ?_
          · intro h46
            refine wk_c1 r42_96 ?_
            subst hQ; exact wk_iret r42_97 (Or.inr ⟨rfl, _, rfl, hP0, hF0, by omega, by omega⟩)
          · intro h47
            refine wk_c1 r42_92 (wk_goto r42_93 ?_)
            subst hQ; exact wk_iret r42_97 (Or.inr ⟨rfl, _, rfl, hP0, hF0, by omega, by omega⟩)
    refine wk_iflt r42_32 ⟨by omega, by omega⟩ ?_ ?_
    · intro h16
      exact wp_fg (le_s (le_n (le_s (le_s le_0)))) c56_60
    · intro h17
      refine wk_il2 r42_35 (wk_al0 r42_36 (wk_getfr r42_37 fd_0_2 (br_0_2 hP0) (wk_getfb r42_40 fd_2_1 (bf_2_1 hP0) ?_)))
      intro v18 h20 h21 e19
      refine wk_icge r42_43 ⟨by omega, by omega⟩ ⟨by omega, by omega⟩ ?_ ?_
      · intro h22
        exact wp_fg (le_s (le_n (le_s (le_s le_0)))) c56_60
      · intro h23
        refine wk_al0 r42_46 (wk_getfr r42_47 fd_0_6 (br_0_6 hP0) (wk_il3 r42_50 (wk_il2 r42_51 (wk_cv3 r42_52 kc_10_197 rfl (m197_10 _ M0 v12 p2 hP0 (by omega) (by omega) (by omega) (by omega)) (cqI ?_)))))
        rintro v28 M24 ⟨hP25, hQ26, h29, h30⟩
        obtain rfl := Fr.same hQ26
        subst hQ; exact wk_iret r42_55 (Or.inr ⟨rfl, _, rfl, hP0, hF0, by omega, by omega⟩)
  · intro h61
    subst hQ; exact wk_thr105 r42_21 rfl (Or.inl ⟨rfl, hP0.thr, (Fr.thr hF0), (by rw [mUp_eq, hF0.at g_below rfl])⟩)
def fm_m29 : Nat := 0
/-- IslandHall.needAnswer -/
theorem m29 {B : eB} (d : Nat) (M0 : Mm) (p0 : Int) (hP0 : Pw M0) (l0 : (-2147483648) ≤ p0) (u0 : p0 ≤ 2147483647) : Ct B (d + 1) 29 [I p0] M0 (qX 0 (fun M => Pw M ∧ Fr (fm_m29 ||| 1) M0 M ∧ M (-1) 0 = M0 (-1) 0 + 1) (qV fun M => Pw M ∧ Fr fm_m29 M0 M ∧ 0 ≤ p0 ∧ 0 ≤ (-1) * p0 + 3)) := by
  refine ct_of (d := d + 0) (k := 0) (L := [some (I p0)]) rfl rfl rfl ?_
  have hF0 := Fr.rf fm_m29 M0
  generalize hQ : (qX 0 (fun M => Pw M ∧ Fr (fm_m29 ||| 1) M0 M ∧ M (-1) 0 = M0 (-1) 0 + 1) (qV fun M => Pw M ∧ Fr fm_m29 M0 M ∧ 0 ≤ p0 ∧ 0 ≤ (-1) * p0 + 3)) = Q
  refine wk_il0 r29_0 ?_
  refine wk_iflt r29_1 ⟨by omega, by omega⟩ ?_ ?_
  · intro h1
    subst hQ; exact wk_thr112 r29_9 rfl (Or.inl ⟨rfl, hP0.thr, (Fr.thr hF0), (by rw [mUp_eq, hF0.at g_below rfl])⟩)
  · intro h2
    refine wk_il0 r29_4 (wk_c1 r29_5 ?_)
    refine wk_iclt r29_6 ⟨by omega, by omega⟩ (by decide) ?_ ?_
    · intro h3
      subst hQ; exact wk_ret r29_20 (Or.inr ⟨rfl, hP0, hF0, by omega, by omega⟩)
    · intro h4
      subst hQ; exact wk_thr112 r29_9 rfl (Or.inl ⟨rfl, hP0.thr, (Fr.thr hF0), (by rw [mUp_eq, hF0.at g_below rfl])⟩)
def fm_m186_10v12 : Nat := 0
/-- IslandHall$Realm.answerAt -/
theorem m186_10v12 {B : eB} (d : Nat) (M0 : Mm) (p1 : Int) (p2 : Int) (hP0 : Pw M0) (l1 : 0 ≤ p1) (u1 : p1 ≤ 2999) (l2 : 0 ≤ p2) (u2 : p2 ≤ 3) : Ct B (d + 1) 186 [R 10, I p1, I p2] M0 (qI fun z M => Pw M ∧ Fr fm_m186_10v12 M0 M ∧ 0 ≤ z ∧ z ≤ 2999) := by
  refine ct_of (d := d + 0) (k := 0) (L := [some (R 10), some (I p1), some (I p2)]) rfl rfl rfl ?_
  have hF0 := Fr.rf fm_m186_10v12 M0
  generalize hQ : (qI fun z M => Pw M ∧ Fr fm_m186_10v12 M0 M ∧ 0 ≤ z ∧ z ≤ 2999) = Q
  refine wk_il2 r186_0 ?_
  refine wk_sw8 r186_1 ⟨by omega, by omega⟩ ?_ ?_ ?_ ?_
  · intro h1
    refine wk_al0 r186_65 (wk_getfr r186_66 fd_10_2 (br_10_2 hP0) (wk_il1 r186_69 (wk_ialdb r186_70 ar_137 ⟨by omega, by omega⟩ (fun q0 q1 => ba_137 hP0 q0 q1) ?_)))
    intro v2 h4 h5 e3
    subst hQ; exact wk_iret r186_71 (⟨rfl, _, rfl, hP0, hF0, by omega, by omega⟩)
  · intro h6
    refine wk_al0 r186_28 (wk_getfr r186_29 fd_10_1 (br_10_1 hP0) (wk_il1 r186_32 (wk_ialdb r186_33 ar_136 ⟨by omega, by omega⟩ (fun q0 q1 => ba_136 hP0 q0 q1) ?_)))
    intro v7 h9 h10 e8
    refine wk_c2 r186_34 (wk_ishrc r186_36 ⟨by omega, by omega⟩ (by decide) pwl_21 (wk_c1 r186_37 (wk_iandc 2 4 r186_38 ⟨rfl, by decide⟩ rfl ?_)))
    subst hQ; exact wk_iret r186_39 (⟨rfl, _, rfl, hP0, hF0, by omega, by omega⟩)
  · intro h13
    refine wk_al0 r186_40 (wk_getfr r186_41 fd_10_1 (br_10_1 hP0) (wk_il1 r186_44 (wk_ialdb r186_45 ar_136 ⟨by omega, by omega⟩ (fun q0 q1 => ba_136 hP0 q0 q1) ?_)))
    intro v14 h16 h17 e15
    refine wk_c2 r186_46 (wk_ishrc r186_48 ⟨by omega, by omega⟩ (by decide) pwl_23 (wk_c2 r186_49 (wk_iandc 3 8 r186_51 ⟨rfl, by decide⟩ rfl ?_)))
    subst hQ; exact wk_iret r186_52 (⟨rfl, _, rfl, hP0, hF0, by omega, by omega⟩)
  · intro h20
    refine wk_al0 r186_53 (wk_getfr r186_54 fd_10_1 (br_10_1 hP0) (wk_il1 r186_57 (wk_ialdb r186_58 ar_136 ⟨by omega, by omega⟩ (fun q0 q1 => ba_136 hP0 q0 q1) ?_)))
    intro v21 h23 h24 e22
    refine wk_c2 r186_59 (wk_ishrc r186_61 ⟨by omega, by omega⟩ (by decide) pwl_26 (wk_c1 r186_62 (wk_iandc 1 2 r186_63 ⟨rfl, by decide⟩ rfl ?_)))
    subst hQ; exact wk_iret r186_64 (⟨rfl, _, rfl, hP0, hF0, by omega, by omega⟩)
def fm_m232_138v8 : Nat := 0
/-- IslandHall$Tale.isMarked -/
theorem m232_138v8 {B : eB} (d : Nat) (M0 : Mm) (p1 : Int) (p2 : Int) (hP0 : Pw M0) (l1 : 0 ≤ p1) (u1 : p1 ≤ 2999) (l2 : 0 ≤ p2) (u2 : p2 ≤ 3) : Ct B (d + 2) 232 [R 138, I p1, I p2] M0 (qI fun z M => Pw M ∧ Fr fm_m232_138v8 M0 M ∧ 0 ≤ z ∧ z ≤ 1) := by
  refine ct_of (d := d + 1) (k := 0) (L := [some (R 138), some (I p1), some (I p2)]) rfl rfl rfl ?_
  have hF0 := Fr.rf fm_m232_138v8 M0
  generalize hQ : (qI fun z M => Pw M ∧ Fr fm_m232_138v8 M0 M ∧ 0 ≤ z ∧ z ≤ 1) = Q
  refine wk_al0 r232_0 (wk_getfr r232_1 fd_138_4 (br_138_4 hP0) (wk_al0 r232_4 (wk_getfr r232_5 fd_138_0 (br_138_0 hP0) (wk_il1 r232_8 (wk_il2 r232_9 (wk_cv3 r232_10 kc_10_186 rfl (m186_10v12 _ M0 p1 p2 hP0 (by omega) (by omega) (by omega) (by omega)) (cqI ?_)))))))
  rintro v5 M1 ⟨hP2, hQ3, h6, h7⟩
  obtain rfl := Fr.same hQ3
  refine wk_baldb r232_13 ar_140 ⟨by omega, by omega⟩ (fun q0 q1 => ba_140 hP0 q0 q1) ?_
  intro v8 h10 h11 e9
  refine wk_c1 r232_14 ?_
  refine wk_icne r232_15 ⟨by omega, by omega⟩ (by decide) ?_ ?_
  · intro h12
    refine wk_c1 r232_22 ?_
    subst hQ; exact wk_zret r232_23 (by decide) (⟨rfl, _, rfl, hP0, hF0, by omega, by omega⟩)
  · intro h13
    refine wk_c1 r232_18 (wk_goto r232_19 ?_)
    subst hQ; exact wk_zret r232_23 (by decide) (⟨rfl, _, rfl, hP0, hF0, by omega, by omega⟩)
def fm_m234_138 : Nat := 4835703278458516698824704
/-- IslandHall$Tale.markAnswers -/
theorem m234_138 {B : eB} (d : Nat) (M0 : Mm) (p1 : Int) (hP0 : Pw M0) (l1 : 0 ≤ p1) (u1 : p1 ≤ 3) : Ct B (d + 3) 234 [R 138, I p1] M0 (qI fun z M => Pw M ∧ Fr fm_m234_138 M0 M ∧ 0 ≤ z ∧ z ≤ 3000) := by
  refine ct_of (d := d + 2) (k := 2) (L := [some (R 138), some (I p1), none, none]) rfl rfl rfl ?_
  have hF0 := Fr.rf fm_m234_138 M0
  generalize hQ : (qI fun z M => Pw M ∧ Fr fm_m234_138 M0 M ∧ 0 ≤ z ∧ z ≤ 3000) = Q
  refine wk_al0 r234_0 (wk_getfr r234_1 fd_138_4 (br_138_4 hP0) (wk_c1 r234_4 (wk_cs102_2 r234_5 rfl (ct_fb ar_140) (cqV ?_))))
  intro M1 e2
  have hP3 : Pw M1 := by rw [e2]; exact hP0.fil (fun i => (ua_140 (by decide)))
  have hF4 : Fr fm_m234_138 M0 M1 := by rw [e2]; exact hF0.fil (fun i => by rw [(ga_140 i)]; rfl)
  refine wk_c1 r234_8 (wk_is2 r234_9 rfl (wk_c1 r234_10 (wk_is3 r234_11 rfl ?_)))
  have c12_496 : ∀ (k496 : Nat) (M453 : Mm) (v447 : Int) (v450 : Int), (3000 - v450).toNat = k496 → Pw M453 → Fr fm_m234_138 M0 M453 → 0 ≤ v447 → v447 ≤ 3000 → 0 ≤ v450 → v450 ≤ 3000 → 0 ≤ (-1) * v447 + v450 + 0 → Wp B (d + 2) 234 12 [some (R 138), some (I p1), some (I v447), some (I v450)] [] M453 Q := by
    refine lp_ind ?_
    intro k496 ih496 M453 v447 v450 hk496 hP454 hF455 h448 h449 h451 h452 h456
    refine wk_il3 r234_12 (wk_al0 r234_13 (wk_getfr r234_14 fd_138_0 (br_138_0 hP454) (wk_getfb r234_17 fd_10_9 (bf_10_9 hP454) ?_)))
    intro v457 h459 h460 e458
    refine wk_icge r234_20 ⟨by omega, by omega⟩ ⟨by omega, by omega⟩ ?_ ?_
    · intro h461
      refine wk_il2 r234_72 ?_
      subst hQ; exact wk_iret r234_73 (⟨rfl, _, rfl, hP454, hF455, by omega, by omega⟩)
    · intro h462
      refine wk_al0 r234_23 (wk_getfr r234_24 fd_138_3 (br_138_3 hP454) (wk_al0 r234_27 (wk_getfb r234_28 fd_138_5 (bf_138_5 hP454) ?_)))
      intro v463 h465 h466 e464
      refine wk_raldb r234_31 ar_154 ⟨by omega, by omega⟩ (fun q0 q1 => ba_154 hP454 q0 q1) (wk_il3 r234_32 (wk_cs102_2 r234_33 rfl (m191_f155v8 _ M453 (155 + v463) v450 hP454 (by omega) (by omega) (by omega) (by omega)) (cqI ?_)))
      rintro v471 M467 ⟨hP468, hQ469, h472, h473⟩
      obtain rfl := Fr.same hQ469
      refine wk_ifeq r234_36 ⟨by omega, by omega⟩ ?_ ?_
      · intro h474
        refine wk_inc3 r234_66 rfl (wk_goto r234_69 ?_)
        exact wp_fg (le_s (le_s (le_s (le_s le_0)))) (ih496 (3000 - (v450 + 1)).toNat (by omega) M453 v447 (v450 + 1) rfl hP454 hF455 (by omega) (by omega) (by omega) (by omega) (by omega))
      · intro h475
        refine wk_al0 r234_39 (wk_il3 r234_40 (wk_il1 r234_41 (wk_cv3 r234_42 kc_138_232 rfl (m232_138v8 _ M453 v450 p1 hP454 (by omega) (by omega) (by omega) (by omega)) (cqI ?_))))
        rintro v480 M476 ⟨hP477, hQ478, h481, h482⟩
        obtain rfl := Fr.same hQ478
        refine wk_ifne r234_45 ⟨by omega, by omega⟩ ?_ ?_
        · intro h483
          refine wk_inc3 r234_66 rfl (wk_goto r234_69 ?_)
          exact wp_fg (le_s (le_s (le_s (le_s le_0)))) (ih496 (3000 - (v450 + 1)).toNat (by omega) M453 v447 (v450 + 1) rfl hP454 hF455 (by omega) (by omega) (by omega) (by omega) (by omega))
        · intro h484
          refine wk_al0 r234_48 (wk_getfr r234_49 fd_138_4 (br_138_4 hP454) (wk_al0 r234_52 (wk_getfr r234_53 fd_138_0 (br_138_0 hP454) (wk_il3 r234_56 (wk_il1 r234_57 (wk_cv3 r234_58 kc_10_186 rfl (m186_10v12 _ M453 v450 p1 hP454 (by omega) (by omega) (by omega) (by omega)) (cqI ?_)))))))
          rintro v489 M485 ⟨hP486, hQ487, h490, h491⟩
          obtain rfl := Fr.same hQ487
          refine wk_c1 r234_61 (wk_bast r234_62 ar_140 ⟨by omega, by omega⟩ (by decide) (wk_nw (ga_140 _) rfl hP454 hF455 (ua_140 (by decide)) ?_))
          intro M492 hP493 hF494 e495
          refine wk_inc2 r234_63 rfl (wk_inc3 r234_66 rfl (wk_goto r234_69 ?_))
          exact wp_fg (le_s (le_s (le_s (le_s le_0)))) (ih496 (3000 - (v450 + 1)).toNat (by omega) M492 (v447 + 1) (v450 + 1) rfl hP493 hF494 (by omega) (by omega) (by omega) (by omega) (by omega))
  exact wp_fg (le_s (le_s (le_s (le_s le_0)))) (c12_496 _ M1 0 0 rfl hP3 hF4 (by omega) (by omega) (by omega) (by omega) (by omega))
def fm_m41_0 : Nat := 4835703278458516698824704
/-- IslandHall.told -/
theorem m41_0 {B : eB} (d : Nat) (M0 : Mm) (p1 : Int) (hP0 : Pw M0) (l1 : (-2147483648) ≤ p1) (u1 : p1 ≤ 2147483647) : Ct B (d + 4) 41 [R 0, I p1] M0 (qX 0 (fun M => Pw M ∧ Fr (fm_m41_0 ||| 1) M0 M ∧ M (-1) 0 = M0 (-1) 0 + 1) (qI fun z M => Pw M ∧ Fr fm_m41_0 M0 M ∧ 0 ≤ z ∧ z ≤ 3000)) := by
  refine ct_of (d := d + 3) (k := 0) (L := [some (R 0), some (I p1)]) rfl rfl rfl ?_
  have hF0 := Fr.rf fm_m41_0 M0
  generalize hQ : (qX 0 (fun M => Pw M ∧ Fr (fm_m41_0 ||| 1) M0 M ∧ M (-1) 0 = M0 (-1) 0 + 1) (qI fun z M => Pw M ∧ Fr fm_m41_0 M0 M ∧ 0 ≤ z ∧ z ≤ 3000)) = Q
  refine wk_il1 r41_0 (wk_cs102_1 r41_1 rfl (m29 _ M0 p1 hP0 (by omega) (by omega)) (cqX (fun _ _ x5 => by subst hQ; exact Or.inl ⟨rfl, x5.1, Fr.trx hF0 x5.2.1 rfl, (by rw [x5.2.2, hF0.at g_below rfl])⟩) (cqV ?_)))
  rintro M1 ⟨hP2, hQ3, h8, h9⟩
  obtain rfl := Fr.same hQ3
  refine wk_al0 r41_4 (wk_getfr r41_5 fd_0_7 (br_0_7 hP0) (wk_il1 r41_8 (wk_cv2 r41_9 kc_138_234 rfl (m234_138 _ M0 p1 hP0 (by omega) (by omega)) (cqI ?_))))
  rintro v14 M10 ⟨hP11, hQ12, h15, h16⟩
  have hF13 : Fr fm_m41_0 M0 M10 := hF0.tr hQ12 rfl
  subst hQ; exact wk_iret r41_12 (Or.inr ⟨rfl, _, rfl, hP11, hF13, by omega, by omega⟩)
def fm_m199_10_f155v1 : Nat := 0
/-- IslandHall$Realm.meetings -/
theorem m199_10_f155v1 {B : eB} (d : Nat) (M0 : Mm) (a1 : Int) (p2 : Int) (p3 : Int) (hP0 : Pw M0) (ha1 : 155 ≤ a1) (hb1 : a1 ≤ 167) (l2 : 0 ≤ p2) (u2 : p2 ≤ 35) (l3 : 4 ≤ p3) (u3 : p3 ≤ 5) : Ct B (d + 1) 199 [R 10, R a1, I p2, I p3] M0 (qI fun z M => Pw M ∧ Fr fm_m199_10_f155v1 M0 M ∧ 0 ≤ z ∧ z ≤ 31) := by
  refine ct_of (d := d + 0) (k := 3) (L := [some (R 10), some (R a1), some (I p2), some (I p3), none, none, none]) rfl rfl rfl ?_
  have hF0 := Fr.rf fm_m199_10_f155v1 M0
  generalize hQ : (qI fun z M => Pw M ∧ Fr fm_m199_10_f155v1 M0 M ∧ 0 ≤ z ∧ z ≤ 31) = Q
  refine wk_c1 r199_0 (wk_is4 r199_1 rfl (wk_c1 r199_3 (wk_is5 r199_4 rfl ?_)))
  have c6_978 : ∀ (k978 : Nat) (v924 : Int) (v927 : Int), (5 - v927).toNat = k978 → 0 ≤ v924 → v924 ≤ 31 → 0 ≤ v927 → v927 ≤ 5 → Wp B (d + 0) 199 6 [some (R 10), some (R a1), some (I p2), some (I p3), some (I v924), some (I v927), none] [] M0 Q := by
    refine lp_ind ?_
    intro k978 ih978 v924 v927 hk978 h925 h926 h928 h929
    refine wk_il5 r199_6 (wk_il3 r199_8 ?_)
    refine wk_icge r199_9 ⟨by omega, by omega⟩ ⟨by omega, by omega⟩ ?_ ?_
    · intro h930
      refine wk_il4 r199_67 ?_
      subst hQ; exact wk_iret r199_69 (⟨rfl, _, rfl, hP0, hF0, by omega, by omega⟩)
    · intro h931
      refine wk_c1 r199_12 (wk_is6 r199_13 rfl ?_)
      have c15_977 : ∀ (k977 : Nat) (v932 : Int) (v935 : Int), (47 - v935).toNat = k977 → 0 ≤ v932 → v932 ≤ 31 → 0 ≤ v935 → v935 ≤ 47 → Wp B (d + 0) 199 15 [some (R 10), some (R a1), some (I p2), some (I p3), some (I v932), some (I v927), some (I v935)] [] M0 Q := by
        refine lp_ind ?_
        intro k977 ih977 v932 v935 hk977 h933 h934 h936 h937
        refine wk_il6 r199_15 (wk_al0 r199_17 (wk_getfb r199_18 fd_10_10 (bf_10_10 hP0) ?_))
        intro v938 h940 h941 e939
        refine wk_icge r199_21 ⟨by omega, by omega⟩ ⟨by omega, by omega⟩ ?_ ?_
        · intro h942
          refine wk_inc5 r199_61 rfl (wk_goto r199_64 ?_)
          exact wp_fg (le_s (le_s (le_s (le_s (le_s (le_s (le_n le_0))))))) (ih978 (5 - (v927 + 1)).toNat (by omega) v932 (v927 + 1) rfl (by omega) (by omega) (by omega) (by omega))
        · intro h943
          refine wk_al1 r199_24 (wk_il6 r199_25 (wk_laldb r199_27 (arF_155 (by omega) (by omega)) ⟨by omega, by omega⟩ (fun q0 q1 => baF_155 hP0 (by omega) (by omega) q0 q1) (by decide) ?_))
          intro n944 h946 h947 e945
          refine wk_al0 r199_28 (wk_getfr r199_29 fd_10_0 (br_10_0 hP0) (wk_il2 r199_32 (wk_il5 r199_33 (wk_iadd r199_35 (wk_raldb r199_36 ar_16 ⟨by omega, by omega⟩ (fun q0 q1 => ba_16 hP0 q0 q1) (wk_il6 r199_37 (wk_laldb r199_39 (arF_17 (by omega) (by omega)) ⟨by omega, by omega⟩ (fun q0 q1 => baF_17 hP0 (by omega) (by omega) q0 q1) (by decide) ?_)))))))
          intro n948 h950 h951 e949
          refine wk_land r199_40 ?_
          intro n952 h953 h954 h955 h956
          refine wk_c6 r199_41 ?_
          refine wk_lcmp r199_42 (by omega) (by omega) ?_ ?_
          · intro h957
            refine wk_ifeq r199_43 (by decide) ?_ ?_
            · intro h963
              refine wk_inc6 r199_55 rfl (wk_goto r199_58 ?_)
              exact wp_fg (le_s (le_s (le_s (le_s (le_s (le_s (le_s le_0))))))) (ih977 (47 - (v935 + 1)).toNat (by omega) v932 (v935 + 1) rfl (by omega) (by omega) (by omega) (by omega))
            · intro h964
              exfalso
              omega
          · intro h958 v962 h959 h960 h961
            refine wk_ifeq r199_43 ⟨by omega, by omega⟩ ?_ ?_
            · intro h965
              exfalso
              omega
            · intro h966
              refine wk_il4 r199_46 (wk_c1 r199_48 (wk_il5 r199_49 (wk_shl1 4 16 r199_51 ⟨by omega, by omega⟩ ⟨pwl_4, by decide⟩ ?_)))
              intro v967 h968 h969 h970
              refine wk_ior 5 32 r199_52 (by decide) ⟨by omega, by omega⟩ ⟨by omega, by omega⟩ ?_
              intro v971 h972 h973 h974 h975 h976
              refine wk_is4 r199_53 rfl (wk_inc6 r199_55 rfl (wk_goto r199_58 ?_))
              exact wp_fg (le_s (le_s (le_s (le_s (le_s (le_s (le_s le_0))))))) (ih977 (47 - (v935 + 1)).toNat (by omega) v971 (v935 + 1) rfl (by omega) (by omega) (by omega) (by omega))
      exact wp_fg (le_s (le_s (le_s (le_s (le_s (le_s (le_s le_0))))))) (c15_977 _ v924 0 rfl (by omega) (by omega) (by omega) (by omega))
  exact wp_fg (le_s (le_s (le_s (le_s (le_s (le_s (le_s le_0))))))) (c6_978 _ 0 0 rfl (by omega) (by omega) (by omega) (by omega))
def fm_m199_10_f155v2 : Nat := 0
/-- IslandHall$Realm.meetings -/
theorem m199_10_f155v2 {B : eB} (d : Nat) (M0 : Mm) (a1 : Int) (p2 : Int) (p3 : Int) (hP0 : Pw M0) (ha1 : 155 ≤ a1) (hb1 : a1 ≤ 167) (l2 : 0 ≤ p2) (u2 : p2 ≤ 39) (l3 : 4 ≤ p3) (u3 : p3 ≤ 7) : Ct B (d + 1) 199 [R 10, R a1, I p2, I p3] M0 (qI fun z M => Pw M ∧ Fr fm_m199_10_f155v2 M0 M ∧ 0 ≤ z ∧ z ≤ 127) := by
  refine ct_of (d := d + 0) (k := 3) (L := [some (R 10), some (R a1), some (I p2), some (I p3), none, none, none]) rfl rfl rfl ?_
  have hF0 := Fr.rf fm_m199_10_f155v2 M0
  generalize hQ : (qI fun z M => Pw M ∧ Fr fm_m199_10_f155v2 M0 M ∧ 0 ≤ z ∧ z ≤ 127) = Q
  refine wk_c1 r199_0 (wk_is4 r199_1 rfl (wk_c1 r199_3 (wk_is5 r199_4 rfl ?_)))
  have c6_1023 : ∀ (k1023 : Nat) (v969 : Int) (v972 : Int), (7 - v972).toNat = k1023 → 0 ≤ v969 → v969 ≤ 127 → 0 ≤ v972 → v972 ≤ 7 → Wp B (d + 0) 199 6 [some (R 10), some (R a1), some (I p2), some (I p3), some (I v969), some (I v972), none] [] M0 Q := by
    refine lp_ind ?_
    intro k1023 ih1023 v969 v972 hk1023 h970 h971 h973 h974
    refine wk_il5 r199_6 (wk_il3 r199_8 ?_)
    refine wk_icge r199_9 ⟨by omega, by omega⟩ ⟨by omega, by omega⟩ ?_ ?_
    · intro h975
      refine wk_il4 r199_67 ?_
      subst hQ; exact wk_iret r199_69 (⟨rfl, _, rfl, hP0, hF0, by omega, by omega⟩)
    · intro h976
      refine wk_c1 r199_12 (wk_is6 r199_13 rfl ?_)
      have c15_1022 : ∀ (k1022 : Nat) (v977 : Int) (v980 : Int), (47 - v980).toNat = k1022 → 0 ≤ v977 → v977 ≤ 127 → 0 ≤ v980 → v980 ≤ 47 → Wp B (d + 0) 199 15 [some (R 10), some (R a1), some (I p2), some (I p3), some (I v977), some (I v972), some (I v980)] [] M0 Q := by
        refine lp_ind ?_
        intro k1022 ih1022 v977 v980 hk1022 h978 h979 h981 h982
        refine wk_il6 r199_15 (wk_al0 r199_17 (wk_getfb r199_18 fd_10_10 (bf_10_10 hP0) ?_))
        intro v983 h985 h986 e984
        refine wk_icge r199_21 ⟨by omega, by omega⟩ ⟨by omega, by omega⟩ ?_ ?_
        · intro h987
          refine wk_inc5 r199_61 rfl (wk_goto r199_64 ?_)
          exact wp_fg (le_s (le_s (le_s (le_s (le_s (le_s (le_n le_0))))))) (ih1023 (7 - (v972 + 1)).toNat (by omega) v977 (v972 + 1) rfl (by omega) (by omega) (by omega) (by omega))
        · intro h988
          refine wk_al1 r199_24 (wk_il6 r199_25 (wk_laldb r199_27 (arF_155 (by omega) (by omega)) ⟨by omega, by omega⟩ (fun q0 q1 => baF_155 hP0 (by omega) (by omega) q0 q1) (by decide) ?_))
          intro n989 h991 h992 e990
          refine wk_al0 r199_28 (wk_getfr r199_29 fd_10_0 (br_10_0 hP0) (wk_il2 r199_32 (wk_il5 r199_33 (wk_iadd r199_35 (wk_raldb r199_36 ar_16 ⟨by omega, by omega⟩ (fun q0 q1 => ba_16 hP0 q0 q1) (wk_il6 r199_37 (wk_laldb r199_39 (arF_17 (by omega) (by omega)) ⟨by omega, by omega⟩ (fun q0 q1 => baF_17 hP0 (by omega) (by omega) q0 q1) (by decide) ?_)))))))
          intro n993 h995 h996 e994
          refine wk_land r199_40 ?_
          intro n997 h998 h999 h1000 h1001
          refine wk_c6 r199_41 ?_
          refine wk_lcmp r199_42 (by omega) (by omega) ?_ ?_
          · intro h1002
            refine wk_ifeq r199_43 (by decide) ?_ ?_
            · intro h1008
              refine wk_inc6 r199_55 rfl (wk_goto r199_58 ?_)
              exact wp_fg (le_s (le_s (le_s (le_s (le_s (le_s (le_s le_0))))))) (ih1022 (47 - (v980 + 1)).toNat (by omega) v977 (v980 + 1) rfl (by omega) (by omega) (by omega) (by omega))
            · intro h1009
              exfalso
              omega
          · intro h1003 v1007 h1004 h1005 h1006
            refine wk_ifeq r199_43 ⟨by omega, by omega⟩ ?_ ?_
            · intro h1010
              exfalso
              omega
            · intro h1011
              refine wk_il4 r199_46 (wk_c1 r199_48 (wk_il5 r199_49 (wk_shl1 6 64 r199_51 ⟨by omega, by omega⟩ ⟨pwl_6, by decide⟩ ?_)))
              intro v1012 h1013 h1014 h1015
              refine wk_ior 7 128 r199_52 (by decide) ⟨by omega, by omega⟩ ⟨by omega, by omega⟩ ?_
              intro v1016 h1017 h1018 h1019 h1020 h1021
              refine wk_is4 r199_53 rfl (wk_inc6 r199_55 rfl (wk_goto r199_58 ?_))
              exact wp_fg (le_s (le_s (le_s (le_s (le_s (le_s (le_s le_0))))))) (ih1022 (47 - (v980 + 1)).toNat (by omega) v1016 (v980 + 1) rfl (by omega) (by omega) (by omega) (by omega))
      exact wp_fg (le_s (le_s (le_s (le_s (le_s (le_s (le_s le_0))))))) (c15_1022 _ v969 0 rfl (by omega) (by omega) (by omega) (by omega))
  exact wp_fg (le_s (le_s (le_s (le_s (le_s (le_s (le_s le_0))))))) (c6_1023 _ 0 0 rfl (by omega) (by omega) (by omega) (by omega))
def fm_m199_10_f155v3 : Nat := 0
/-- IslandHall$Realm.meetings -/
theorem m199_10_f155v3 {B : eB} (d : Nat) (M0 : Mm) (a1 : Int) (p2 : Int) (p3 : Int) (hP0 : Pw M0) (ha1 : 155 ≤ a1) (hb1 : a1 ≤ 167) (l2 : 0 ≤ p2) (u2 : p2 ≤ 46) (l3 : 2 ≤ p3) (u3 : p3 ≤ 7) : Ct B (d + 1) 199 [R 10, R a1, I p2, I p3] M0 (qI fun z M => Pw M ∧ Fr fm_m199_10_f155v3 M0 M ∧ 0 ≤ z ∧ z ≤ 127) := by
  refine ct_of (d := d + 0) (k := 3) (L := [some (R 10), some (R a1), some (I p2), some (I p3), none, none, none]) rfl rfl rfl ?_
  have hF0 := Fr.rf fm_m199_10_f155v3 M0
  generalize hQ : (qI fun z M => Pw M ∧ Fr fm_m199_10_f155v3 M0 M ∧ 0 ≤ z ∧ z ≤ 127) = Q
  refine wk_c1 r199_0 (wk_is4 r199_1 rfl (wk_c1 r199_3 (wk_is5 r199_4 rfl ?_)))
  have c6_1023 : ∀ (k1023 : Nat) (v969 : Int) (v972 : Int), (7 - v972).toNat = k1023 → 0 ≤ v969 → v969 ≤ 127 → 0 ≤ v972 → v972 ≤ 7 → Wp B (d + 0) 199 6 [some (R 10), some (R a1), some (I p2), some (I p3), some (I v969), some (I v972), none] [] M0 Q := by
    refine lp_ind ?_
    intro k1023 ih1023 v969 v972 hk1023 h970 h971 h973 h974
    refine wk_il5 r199_6 (wk_il3 r199_8 ?_)
    refine wk_icge r199_9 ⟨by omega, by omega⟩ ⟨by omega, by omega⟩ ?_ ?_
    · intro h975
      refine wk_il4 r199_67 ?_
      subst hQ; exact wk_iret r199_69 (⟨rfl, _, rfl, hP0, hF0, by omega, by omega⟩)
    · intro h976
      refine wk_c1 r199_12 (wk_is6 r199_13 rfl ?_)
      have c15_1022 : ∀ (k1022 : Nat) (v977 : Int) (v980 : Int), (47 - v980).toNat = k1022 → 0 ≤ v977 → v977 ≤ 127 → 0 ≤ v980 → v980 ≤ 47 → Wp B (d + 0) 199 15 [some (R 10), some (R a1), some (I p2), some (I p3), some (I v977), some (I v972), some (I v980)] [] M0 Q := by
        refine lp_ind ?_
        intro k1022 ih1022 v977 v980 hk1022 h978 h979 h981 h982
        refine wk_il6 r199_15 (wk_al0 r199_17 (wk_getfb r199_18 fd_10_10 (bf_10_10 hP0) ?_))
        intro v983 h985 h986 e984
        refine wk_icge r199_21 ⟨by omega, by omega⟩ ⟨by omega, by omega⟩ ?_ ?_
        · intro h987
          refine wk_inc5 r199_61 rfl (wk_goto r199_64 ?_)
          exact wp_fg (le_s (le_s (le_s (le_s (le_s (le_s (le_n le_0))))))) (ih1023 (7 - (v972 + 1)).toNat (by omega) v977 (v972 + 1) rfl (by omega) (by omega) (by omega) (by omega))
        · intro h988
          refine wk_al1 r199_24 (wk_il6 r199_25 (wk_laldb r199_27 (arF_155 (by omega) (by omega)) ⟨by omega, by omega⟩ (fun q0 q1 => baF_155 hP0 (by omega) (by omega) q0 q1) (by decide) ?_))
          intro n989 h991 h992 e990
          refine wk_al0 r199_28 (wk_getfr r199_29 fd_10_0 (br_10_0 hP0) (wk_il2 r199_32 (wk_il5 r199_33 (wk_iadd r199_35 (wk_raldb r199_36 ar_16 ⟨by omega, by omega⟩ (fun q0 q1 => ba_16 hP0 q0 q1) (wk_il6 r199_37 (wk_laldb r199_39 (arF_17 (by omega) (by omega)) ⟨by omega, by omega⟩ (fun q0 q1 => baF_17 hP0 (by omega) (by omega) q0 q1) (by decide) ?_)))))))
          intro n993 h995 h996 e994
          refine wk_land r199_40 ?_
          intro n997 h998 h999 h1000 h1001
          refine wk_c6 r199_41 ?_
          refine wk_lcmp r199_42 (by omega) (by omega) ?_ ?_
          · intro h1002
            refine wk_ifeq r199_43 (by decide) ?_ ?_
            · intro h1008
              refine wk_inc6 r199_55 rfl (wk_goto r199_58 ?_)
              exact wp_fg (le_s (le_s (le_s (le_s (le_s (le_s (le_s le_0))))))) (ih1022 (47 - (v980 + 1)).toNat (by omega) v977 (v980 + 1) rfl (by omega) (by omega) (by omega) (by omega))
            · intro h1009
              exfalso
              omega
          · intro h1003 v1007 h1004 h1005 h1006
            refine wk_ifeq r199_43 ⟨by omega, by omega⟩ ?_ ?_
            · intro h1010
              exfalso
              omega
            · intro h1011
              refine wk_il4 r199_46 (wk_c1 r199_48 (wk_il5 r199_49 (wk_shl1 6 64 r199_51 ⟨by omega, by omega⟩ ⟨pwl_6, by decide⟩ ?_)))
              intro v1012 h1013 h1014 h1015
              refine wk_ior 7 128 r199_52 (by decide) ⟨by omega, by omega⟩ ⟨by omega, by omega⟩ ?_
              intro v1016 h1017 h1018 h1019 h1020 h1021
              refine wk_is4 r199_53 rfl (wk_inc6 r199_55 rfl (wk_goto r199_58 ?_))
              exact wp_fg (le_s (le_s (le_s (le_s (le_s (le_s (le_s le_0))))))) (ih1022 (47 - (v980 + 1)).toNat (by omega) v1016 (v980 + 1) rfl (by omega) (by omega) (by omega) (by omega))
      exact wp_fg (le_s (le_s (le_s (le_s (le_s (le_s (le_s le_0))))))) (c15_1022 _ v969 0 rfl (by omega) (by omega) (by omega) (by omega))
  exact wp_fg (le_s (le_s (le_s (le_s (le_s (le_s (le_s le_0))))))) (c6_1023 _ 0 0 rfl (by omega) (by omega) (by omega) (by omega))
def fm_m13_0 : Nat := 0
/-- IslandHall.can -/
theorem m13_0 {B : eB} (d : Nat) (M0 : Mm) (p1 : Int) (hP0 : Pw M0) (l1 : (-2147483648) ≤ p1) (u1 : p1 ≤ 2147483647) : Ct B (d + 2) 13 [R 0, I p1] M0 (qX 0 (fun M => Pw M ∧ Fr (fm_m13_0 ||| 1) M0 M ∧ M (-1) 0 = M0 (-1) 0 + 1) (qI fun z M => Pw M ∧ Fr fm_m13_0 M0 M ∧ 0 ≤ z ∧ z ≤ 127)) := by
  refine ct_of (d := d + 1) (k := 0) (L := [some (R 0), some (I p1)]) rfl rfl rfl ?_
  have hF0 := Fr.rf fm_m13_0 M0
  generalize hQ : (qX 0 (fun M => Pw M ∧ Fr (fm_m13_0 ||| 1) M0 M ∧ M (-1) 0 = M0 (-1) 0 + 1) (qI fun z M => Pw M ∧ Fr fm_m13_0 M0 M ∧ 0 ≤ z ∧ z ≤ 127)) = Q
  refine wk_il1 r13_0 ?_
  refine wk_sw1 r13_1 ⟨by omega, by omega⟩ ?_ ?_ ?_ ?_
  · intro h1
    subst hQ; exact wk_thr105 r13_83 rfl (Or.inl ⟨rfl, hP0.thr, (Fr.thr hF0), (by rw [mUp_eq, hF0.at g_below rfl])⟩)
  · intro h2
    refine wk_al0 r13_28 (wk_getfr r13_29 fd_0_6 (br_0_6 hP0) (wk_al0 r13_32 (wk_getfr r13_33 fd_0_7 (br_0_7 hP0) (wk_cv1 r13_36 kc_138_229 rfl (m229_138 _ M0 hP0) (cqR ?_)))))
    rintro v7 M3 ⟨hP4, hQ5, h8, h9⟩
    obtain rfl := Fr.same hQ5
    refine wk_c2 r13_39 (wk_c1 r13_41 (wk_cv4 r13_42 kc_10_199 rfl (m199_10_f155v1 _ M0 v7 35 4 hP0 (by omega) (by omega) (by decide) (by decide) (by decide) (by decide)) (cqI ?_)))
    rintro v14 M10 ⟨hP11, hQ12, h15, h16⟩
    obtain rfl := Fr.same hQ12
    subst hQ; exact wk_iret r13_45 (Or.inr ⟨rfl, _, rfl, hP0, hF0, by omega, by omega⟩)
  · intro h17
    refine wk_al0 r13_46 (wk_getfr r13_47 fd_0_6 (br_0_6 hP0) (wk_al0 r13_50 (wk_getfr r13_51 fd_0_7 (br_0_7 hP0) (wk_cv1 r13_54 kc_138_229 rfl (m229_138 _ M0 hP0) (cqR ?_)))))
    rintro v22 M18 ⟨hP19, hQ20, h23, h24⟩
    obtain rfl := Fr.same hQ20
    refine wk_c2 r13_57 (wk_c2 r13_59 (wk_cv4 r13_61 kc_10_199 rfl (m199_10_f155v2 _ M0 v22 39 7 hP0 (by omega) (by omega) (by decide) (by decide) (by decide) (by decide)) (cqI ?_)))
    rintro v29 M25 ⟨hP26, hQ27, h30, h31⟩
    obtain rfl := Fr.same hQ27
    subst hQ; exact wk_iret r13_64 (Or.inr ⟨rfl, _, rfl, hP0, hF0, by omega, by omega⟩)
  · intro h32
    refine wk_al0 r13_65 (wk_getfr r13_66 fd_0_6 (br_0_6 hP0) (wk_al0 r13_69 (wk_getfr r13_70 fd_0_7 (br_0_7 hP0) (wk_cv1 r13_73 kc_138_229 rfl (m229_138 _ M0 hP0) (cqR ?_)))))
    rintro v37 M33 ⟨hP34, hQ35, h38, h39⟩
    obtain rfl := Fr.same hQ35
    refine wk_c2 r13_76 (wk_c1 r13_78 (wk_cv4 r13_79 kc_10_199 rfl (m199_10_f155v3 _ M0 v37 46 2 hP0 (by omega) (by omega) (by decide) (by decide) (by decide) (by decide)) (cqI ?_)))
    rintro v44 M40 ⟨hP41, hQ42, h45, h46⟩
    obtain rfl := Fr.same hQ42
    subst hQ; exact wk_iret r13_82 (Or.inr ⟨rfl, _, rfl, hP0, hF0, by omega, by omega⟩)
def fm_m14_0 : Nat := 18446744073709551616
/-- IslandHall.could -/
theorem m14_0 {B : eB} (d : Nat) (M0 : Mm) (p1 : Int) (p2 : Int) (hP0 : Pw M0) (l1 : (-2147483648) ≤ p1) (u1 : p1 ≤ 2147483647) (l2 : (-2147483648) ≤ p2) (u2 : p2 ≤ 2147483647) : Ct B (d + 4) 14 [R 0, I p1, I p2] M0 (qX 0 (fun M => Pw M ∧ Fr (fm_m14_0 ||| 1) M0 M ∧ M (-1) 0 = M0 (-1) 0 + 1) (qI fun z M => Pw M ∧ Fr fm_m14_0 M0 M ∧ (-2147483648) ≤ z ∧ z ≤ 2147483647)) := by
  refine ct_of (d := d + 3) (k := 5) (L := [some (R 0), some (I p1), some (I p2), none, none, none, none, none]) rfl rfl rfl ?_
  have hF0 := Fr.rf fm_m14_0 M0
  generalize hQ : (qX 0 (fun M => Pw M ∧ Fr (fm_m14_0 ||| 1) M0 M ∧ M (-1) 0 = M0 (-1) 0 + 1) (qI fun z M => Pw M ∧ Fr fm_m14_0 M0 M ∧ (-2147483648) ≤ z ∧ z ≤ 2147483647)) = Q
  refine wk_il1 r14_0 (wk_c1 r14_1 ?_)
  have c10_754 : (-1) ≤ p1 → p1 ≤ 6 → Wp B (d + 3) 14 10 [some (R 0), some (I p1), some (I p2), none, none, none, none, none] [] M0 Q := by
    intro h15 h16
    refine wk_al0 r14_10 (wk_il2 r14_11 (wk_cv2 r14_12 kc_0_31 rfl (m31_0 _ M0 p2 hP0 (by omega) (by omega)) (cqX (fun _ _ x21 => by subst hQ; exact Or.inl ⟨rfl, x21.1, Fr.trx hF0 x21.2.1 rfl, (by rw [x21.2.2, hF0.at g_below rfl])⟩) (cqV ?_))))
    rintro M17 ⟨hP18, hQ19, h24, h25⟩
    obtain rfl := Fr.same hQ19
    obtain ⟨v26, e27⟩ : ∃ v, M0 0 9 = v := ⟨_, rfl⟩
    have h28 := bf_0_9 hP0; rw [e27] at h28
    refine wk_al0 r14_15 (wk_getfr r14_16 fd_0_7 (br_0_7 hP0) (wk_cv1 r14_19 kc_138_229 rfl (m229_138 _ M0 hP0) (cqR ?_)))
    rintro v33 M29 ⟨hP30, hQ31, h34, h35⟩
    obtain rfl := Fr.same hQ31
    refine wk_as3 r14_22 rfl (wk_c1 r14_23 (wk_is4 r14_24 rfl (wk_c1 r14_26 (wk_is5 r14_27 rfl ?_))))
    have c29_753 : ∀ (k753 : Nat) (M688 : Mm) (v682 : Int) (v685 : Int), (47 - v685).toNat = k753 → Pw M688 → Fr fm_m14_0 M0 M688 → M688 0 9 = v26 → (-2147483648) ≤ v682 → v682 ≤ 2147483647 → 0 ≤ v685 → v685 ≤ 47 → Wp B (d + 3) 14 29 [some (R 0), some (I p1), some (I p2), some (R v33), some (I v682), some (I v685), none, none] [] M688 Q := by
      refine lp_ind ?_
      intro k753 ih753 M688 v682 v685 hk753 hP689 hF690 e691 h683 h684 h686 h687
      refine wk_il5 r14_29 (wk_al0 r14_31 (wk_getfr r14_32 fd_0_6 (br_0_6 hP689) (wk_getfb r14_35 fd_10_10 (bf_10_10 hP689) ?_)))
      intro v692 h694 h695 e693
      refine wk_icge r14_38 ⟨by omega, by omega⟩ ⟨by omega, by omega⟩ ?_ ?_
      · intro h696
        refine wk_il4 r14_100 ?_
        subst hQ; exact wk_iret r14_102 (Or.inr ⟨rfl, _, rfl, hP689, hF690, by omega, by omega⟩)
      · intro h697
        refine wk_al0 r14_41 (wk_getfr r14_42 fd_0_6 (br_0_6 hP689) (wk_al0 r14_45 (wk_getfr r14_46 fd_0_8 (br_0_8 hP689) (wk_il2 r14_49 (wk_caldb r14_50 ar_168 ⟨by omega, by omega⟩ (fun q0 q1 => ba_168 hP689 q0 q1) ?_)))))
        intro v698 e699
        have hC700 : isC v698 := Or.inr (by omega)
        refine wk_il5 r14_51 (wk_cv3 r14_53 kc_10_207 rfl (m207_10v8 _ M688 v698 v685 hP689 hC700 (by omega) (by omega)) (cqL ?_))
        rintro n705 M701 ⟨hP702, hQ703, h706⟩
        have hF704 : Fr fm_m14_0 M0 M701 := hF690.tr hQ703 rfl
        refine wk_ls6 r14_56 rfl (wk_il4 r14_58 (wk_al3 r14_60 (wk_il5 r14_61 (wk_laldb r14_63 (arF_155 (by omega) (by omega)) ⟨by omega, by omega⟩ (fun q0 q1 => baF_155 hP702 (by omega) (by omega) q0 q1) (by decide) ?_))))
        intro n707 h709 h710 e708
        refine wk_il1 r14_64 (wk_c1 r14_65 ?_)
        refine wk_icne r14_66 ⟨by omega, by omega⟩ (by decide) ?_ ?_
        · intro h711
          refine wk_al0 r14_74 (wk_getfr r14_75 fd_0_6 (br_0_6 hP702) (wk_il1 r14_78 (wk_c1 r14_79 (wk_ll6 r14_80 (wk_il5 r14_82 (wk_cv5 r14_84 kc_10_189 rfl (m189_10v8 _ M701 p1 (-1) n705 v685 hP702 (by omega) (by omega) (by decide) (by decide) (by omega) (by omega) (by omega)) (cqL ?_)))))))
          rintro n716 M712 ⟨hP713, hQ714, h717⟩
          obtain rfl := Fr.same hQ714
          refine wk_land r14_87 ?_
          intro n718 h719 h720 h721 h722
          refine wk_cs102_1 r14_88 rfl (m245 _ M701 n718 hP702 (by omega)) (cqI ?_)
          rintro v728 M723 ⟨hP724, hQ725, h729, h730, xh727⟩
          obtain rfl := Fr.same hQ725
          refine wk_iadd r14_91 (wk_wrap ?_)
          intro v731 h732 h733 h734
          refine wk_is4 r14_92 rfl (wk_inc5 r14_94 rfl (wk_goto r14_97 ?_))
          exact wp_fg (le_s (le_s (le_s (le_s (le_s (le_s (le_n (le_s le_0)))))))) (ih753 (47 - (v685 + 1)).toNat (by omega) M701 v731 (v685 + 1) rfl hP702 hF704 ((hQ703.at g_0_9 rfl).trans e691) (by omega) (by omega) (by omega) (by omega))
        · intro h735
          refine wk_ll6 r14_69 (wk_goto r14_71 (wk_land r14_87 ?_))
          intro n736 h737 h738 h739 h740
          refine wk_cs102_1 r14_88 rfl (m245 _ M701 n736 hP702 (by omega)) (cqI ?_)
          rintro v746 M741 ⟨hP742, hQ743, h747, h748, xh745⟩
          obtain rfl := Fr.same hQ743
          refine wk_iadd r14_91 (wk_wrap ?_)
          intro v749 h750 h751 h752
          refine wk_is4 r14_92 rfl (wk_inc5 r14_94 rfl (wk_goto r14_97 ?_))
          exact wp_fg (le_s (le_s (le_s (le_s (le_s (le_s (le_n (le_s le_0)))))))) (ih753 (47 - (v685 + 1)).toNat (by omega) M701 v749 (v685 + 1) rfl hP702 hF704 ((hQ703.at g_0_9 rfl).trans e691) (by omega) (by omega) (by omega) (by omega))
    exact wp_fg (le_s (le_s (le_s (le_s (le_s (le_s (le_s (le_s le_0)))))))) (c29_753 _ M0 0 0 rfl hP0 hF0 e27 (by omega) (by omega) (by omega) (by omega))
  refine wk_iceq r14_2 ⟨by omega, by omega⟩ (by decide) ?_ ?_
  · intro h1
    exact wp_fg (le_s (le_s (le_s (le_s (le_s (le_s (le_s (le_s le_0)))))))) (c10_754 (by omega) (by omega))
  · intro h2
    refine wk_al0 r14_5 (wk_il1 r14_6 (wk_cv2 r14_7 kc_0_30 rfl (m30_0 _ M0 p1 hP0 (by omega) (by omega)) (cqX (fun _ _ x7 => by subst hQ; exact Or.inl ⟨rfl, x7.1, Fr.trx hF0 x7.2.1 rfl, (by rw [x7.2.2, hF0.at g_below rfl])⟩) (cqV ?_))))
    rintro M3 ⟨hP4, hQ5, h10, h11⟩
    obtain rfl := Fr.same hQ5
    obtain ⟨v12, e13⟩ : ∃ v, M0 2 1 = v := ⟨_, rfl⟩
    have h14 := bf_2_1 hP0; rw [e13] at h14
    exact wp_fg (le_s (le_s (le_s (le_s (le_s (le_s (le_s (le_s le_0)))))))) (c10_754 (by omega) (by omega))
def fm_m225_138v6 : Nat := 0
/-- IslandHall$Tale.bars -/
theorem m225_138v6 {B : eB} (d : Nat) (M0 : Mm) (p1 : Int) (hP0 : Pw M0) (l1 : 0 ≤ p1) (u1 : p1 ≤ 11) : Ct B (d + 1) 225 [R 138, I p1] M0 (qI fun z M => Pw M ∧ Fr fm_m225_138v6 M0 M ∧ 0 ≤ z ∧ z ≤ 1) := by
  refine ct_of (d := d + 0) (k := 4) (L := [some (R 138), some (I p1), none, none, none, none]) rfl rfl rfl ?_
  have hF0 := Fr.rf fm_m225_138v6 M0
  generalize hQ : (qI fun z M => Pw M ∧ Fr fm_m225_138v6 M0 M ∧ 0 ≤ z ∧ z ≤ 1) = Q
  refine wk_c1 r225_0 (wk_is2 r225_1 rfl ?_)
  have c2_805 : ∀ (k805 : Nat) (v747 : Int), (47 - v747).toNat = k805 → 0 ≤ v747 → v747 ≤ 47 → Wp B (d + 0) 225 2 [some (R 138), some (I p1), some (I v747), none, none, none] [] M0 Q := by
    refine lp_ind ?_
    intro k805 ih805 v747 hk805 h748 h749
    refine wk_il2 r225_2 (wk_al0 r225_3 (wk_getfr r225_4 fd_138_0 (br_138_0 hP0) (wk_getfb r225_7 fd_10_10 (bf_10_10 hP0) ?_)))
    intro v750 h752 h753 e751
    refine wk_icge r225_10 ⟨by omega, by omega⟩ ⟨by omega, by omega⟩ ?_ ?_
    · intro h754
      refine wk_c1 r225_85 ?_
      subst hQ; exact wk_zret r225_86 (by decide) (⟨rfl, _, rfl, hP0, hF0, by omega, by omega⟩)
    · intro h755
      refine wk_al0 r225_13 (wk_getfr r225_14 fd_138_3 (br_138_3 hP0) (wk_c1 r225_17 (wk_raldb r225_18 ar_154 (by decide) (fun q0 q1 => ba_154 hP0 q0 q1) (wk_il2 r225_19 (wk_laldb r225_20 ar_155 ⟨by omega, by omega⟩ (fun q0 q1 => ba_155 hP0 q0 q1) (by decide) ?_)))))
      intro n756 h758 h759 e757
      refine wk_al0 r225_21 (wk_getfr r225_22 fd_138_2 (br_138_2 hP0) (wk_il1 r225_25 (wk_raldb r225_26 ar_141 ⟨by omega, by omega⟩ (fun q0 q1 => ba_141 hP0 q0 q1) (wk_il2 r225_27 (wk_laldb r225_28 (arF_142 (by omega) (by omega)) ⟨by omega, by omega⟩ (fun q0 q1 => baF_142 hP0 (by omega) (by omega) q0 q1) (by decide) ?_)))))
      intro n760 h762 h763 e761
      refine wk_c7 r225_29 (wk_lxor r225_32 ?_)
      intro n764 h765 h766
      refine wk_land r225_33 ?_
      intro n767 h768 h769 h770 h771
      refine wk_ls3 r225_34 rfl (wk_c1 r225_35 (wk_is5 r225_36 rfl ?_))
      have c38_804 : ∀ (k804 : Nat) (n772 : Nat) (v774 : Int), (12 - v774).toNat = k804 → n772 < 18446744073709551616 → 0 ≤ v774 → v774 ≤ 12 → Wp B (d + 0) 225 38 [some (R 138), some (I p1), some (I v747), some (J n772), none, some (I v774)] [] M0 Q := by
        refine lp_ind ?_
        intro k804 ih804 n772 v774 hk804 h773 h775 h776
        refine wk_il5 r225_38 (wk_al0 r225_40 (wk_getfb r225_41 fd_138_5 (bf_138_5 hP0) ?_))
        intro v777 h779 h780 e778
        refine wk_icge r225_44 ⟨by omega, by omega⟩ ⟨by omega, by omega⟩ ?_ ?_
        · intro h781
          refine wk_ll3 r225_71 (wk_c6 r225_72 ?_)
          refine wk_lcmp r225_73 (by omega) (by omega) ?_ ?_
          · intro h782
            refine wk_ifeq r225_74 (by decide) ?_ ?_
            · intro h788
              refine wk_inc2 r225_79 rfl (wk_goto r225_82 ?_)
              exact wp_fg (le_s (le_s (le_s (le_n (le_s (le_n le_0)))))) (ih805 (47 - (v747 + 1)).toNat (by omega) (v747 + 1) rfl (by omega) (by omega))
            · intro h789
              exfalso
              omega
          · intro h783 v787 h784 h785 h786
            refine wk_ifeq r225_74 ⟨by omega, by omega⟩ ?_ ?_
            · intro h790
              exfalso
              omega
            · intro h791
              refine wk_c1 r225_77 ?_
              subst hQ; exact wk_zret r225_78 (by decide) (⟨rfl, _, rfl, hP0, hF0, by omega, by omega⟩)
        · intro h792
          refine wk_il5 r225_47 (wk_il1 r225_49 ?_)
          refine wk_iceq r225_50 ⟨by omega, by omega⟩ ⟨by omega, by omega⟩ ?_ ?_
          · intro h793
            refine wk_inc5 r225_65 rfl (wk_goto r225_68 ?_)
            exact wp_fg (le_s (le_s (le_s (le_s (le_s (le_s le_0)))))) (ih804 (12 - (v774 + 1)).toNat (by omega) n772 (v774 + 1) rfl (by omega) (by omega) (by omega))
          · intro h794
            refine wk_ll3 r225_53 (wk_al0 r225_54 (wk_getfr r225_55 fd_138_2 (br_138_2 hP0) (wk_il5 r225_58 (wk_raldb r225_60 ar_141 ⟨by omega, by omega⟩ (fun q0 q1 => ba_141 hP0 q0 q1) (wk_il2 r225_61 (wk_laldb r225_62 (arF_142 (by omega) (by omega)) ⟨by omega, by omega⟩ (fun q0 q1 => baF_142 hP0 (by omega) (by omega) q0 q1) (by decide) ?_))))))
            intro n795 h797 h798 e796
            refine wk_land r225_63 ?_
            intro n799 h800 h801 h802 h803
            refine wk_ls3 r225_64 rfl (wk_inc5 r225_65 rfl (wk_goto r225_68 ?_))
            exact wp_fg (le_s (le_s (le_s (le_s (le_s (le_s le_0)))))) (ih804 (12 - (v774 + 1)).toNat (by omega) n799 (v774 + 1) rfl (by omega) (by omega) (by omega))
      exact wp_fg (le_s (le_s (le_s (le_s (le_s (le_s le_0)))))) (c38_804 _ n767 0 rfl (by omega) (by omega) (by omega))
  exact wp_fg (le_s (le_s (le_s (le_s (le_s (le_s le_0)))))) (c2_805 _ 0 rfl (by omega) (by omega))
def fm_m230_138 : Nat := 0
/-- IslandHall$Tale.idle -/
theorem m230_138 {B : eB} (d : Nat) (M0 : Mm) (hP0 : Pw M0)  : Ct B (d + 2) 230 [R 138] M0 (qI fun z M => Pw M ∧ Fr fm_m230_138 M0 M ∧ 0 ≤ z ∧ z ≤ 4095) := by
  refine ct_of (d := d + 1) (k := 2) (L := [some (R 138), none, none]) rfl rfl rfl ?_
  have hF0 := Fr.rf fm_m230_138 M0
  generalize hQ : (qI fun z M => Pw M ∧ Fr fm_m230_138 M0 M ∧ 0 ≤ z ∧ z ≤ 4095) = Q
  refine wk_c1 r230_0 (wk_is1 r230_1 rfl (wk_c1 r230_2 (wk_is2 r230_3 rfl ?_)))
  have c4_283 : ∀ (k283 : Nat) (v252 : Int) (v255 : Int), (12 - v255).toNat = k283 → 0 ≤ v252 → v252 ≤ 4095 → 0 ≤ v255 → v255 ≤ 12 → Wp B (d + 1) 230 4 [some (R 138), some (I v252), some (I v255)] [] M0 Q := by
    refine lp_ind ?_
    intro k283 ih283 v252 v255 hk283 h253 h254 h256 h257
    refine wk_il2 r230_4 (wk_al0 r230_5 (wk_getfb r230_6 fd_138_5 (bf_138_5 hP0) ?_))
    intro v258 h260 h261 e259
    refine wk_icge r230_9 ⟨by omega, by omega⟩ ⟨by omega, by omega⟩ ?_ ?_
    · intro h262
      refine wk_il1 r230_32 ?_
      subst hQ; exact wk_iret r230_33 (⟨rfl, _, rfl, hP0, hF0, by omega, by omega⟩)
    · intro h263
      refine wk_al0 r230_12 (wk_il2 r230_13 (wk_cv2 r230_14 kc_138_225 rfl (m225_138v6 _ M0 v255 hP0 (by omega) (by omega)) (cqI ?_)))
      rintro v268 M264 ⟨hP265, hQ266, h269, h270⟩
      obtain rfl := Fr.same hQ266
      refine wk_ifne r230_17 ⟨by omega, by omega⟩ ?_ ?_
      · intro h271
        refine wk_inc2 r230_26 rfl (wk_goto r230_29 ?_)
        exact wp_fg (le_s (le_s (le_s le_0))) (ih283 (12 - (v255 + 1)).toNat (by omega) v252 (v255 + 1) rfl (by omega) (by omega) (by omega) (by omega))
      · intro h272
        refine wk_il1 r230_20 (wk_c1 r230_21 (wk_il2 r230_22 (wk_shl1 11 2048 r230_23 ⟨by omega, by omega⟩ ⟨pwl_11, by decide⟩ ?_)))
        intro v273 h274 h275 h276
        refine wk_ior 12 4096 r230_24 (by decide) ⟨by omega, by omega⟩ ⟨by omega, by omega⟩ ?_
        intro v277 h278 h279 h280 h281 h282
        refine wk_is1 r230_25 rfl (wk_inc2 r230_26 rfl (wk_goto r230_29 ?_))
        exact wp_fg (le_s (le_s (le_s le_0))) (ih283 (12 - (v255 + 1)).toNat (by omega) v277 (v255 + 1) rfl (by omega) (by omega) (by omega) (by omega))
  exact wp_fg (le_s (le_s (le_s le_0))) (c4_283 _ 0 0 rfl (by omega) (by omega) (by omega) (by omega))
def fm_m32_0 : Nat := 0
/-- IslandHall.needless -/
theorem m32_0 {B : eB} (d : Nat) (M0 : Mm) (hP0 : Pw M0)  : Ct B (d + 3) 32 [R 0] M0 (qI fun z M => Pw M ∧ Fr fm_m32_0 M0 M ∧ 0 ≤ z ∧ z ≤ 4095) := by
  refine ct_of (d := d + 2) (k := 0) (L := [some (R 0)]) rfl rfl rfl ?_
  have hF0 := Fr.rf fm_m32_0 M0
  generalize hQ : (qI fun z M => Pw M ∧ Fr fm_m32_0 M0 M ∧ 0 ≤ z ∧ z ≤ 4095) = Q
  refine wk_al0 r32_0 (wk_getfr r32_1 fd_0_7 (br_0_7 hP0) (wk_cv1 r32_4 kc_138_230 rfl (m230_138 _ M0 hP0) (cqI ?_)))
  rintro v5 M1 ⟨hP2, hQ3, h6, h7⟩
  obtain rfl := Fr.same hQ3
  subst hQ; exact wk_iret r32_7 (⟨rfl, _, rfl, hP0, hF0, by omega, by omega⟩)
def fm_m215_170 : Nat := 19807040628566084398385987584
/-- IslandHall$Subsets.clear -/
theorem m215_170 {B : eB} (d : Nat) (M0 : Mm) (p1 : Int) (hP0 : Pw M0) (l1 : 0 ≤ p1) (u1 : p1 ≤ 12) : Ct B (d + 1) 215 [R 170, I p1] M0 (qV fun M => Pw M ∧ Fr fm_m215_170 M0 M) := by
  refine ct_of (d := d + 0) (k := 1) (L := [some (R 170), some (I p1), none]) rfl rfl rfl ?_
  have hF0 := Fr.rf fm_m215_170 M0
  generalize hQ : (qV fun M => Pw M ∧ Fr fm_m215_170 M0 M) = Q
  refine wk_c1 r215_0 (wk_is2 r215_1 rfl ?_)
  have c2_161 : ∀ (k161 : Nat) (M148 : Mm) (v145 : Int), (4096 - v145).toNat = k161 → Pw M148 → Fr fm_m215_170 M0 M148 → 0 ≤ v145 → v145 ≤ 4096 → Wp B (d + 0) 215 2 [some (R 170), some (I p1), some (I v145)] [] M148 Q := by
    refine lp_ind ?_
    intro k161 ih161 M148 v145 hk161 hP149 hF150 h146 h147
    refine wk_il2 r215_2 (wk_c1 r215_3 (wk_il1 r215_4 (wk_shl1 12 4096 r215_5 ⟨by omega, by omega⟩ ⟨pwl_12, by decide⟩ ?_)))
    intro v151 h152 h153 h154
    refine wk_icge r215_6 ⟨by omega, by omega⟩ ⟨by omega, by omega⟩ ?_ ?_
    · intro h155
      subst hQ; exact wk_ret r215_22 (⟨rfl, hP149, hF150⟩)
    · intro h156
      refine wk_al0 r215_9 (wk_getfr r215_10 fd_170_0 (br_170_0 hP149) (wk_il2 r215_13 (wk_c1 r215_14 (wk_bast r215_15 ar_171 ⟨by omega, by omega⟩ (by decide) (wk_nw (ga_171 _) rfl hP149 hF150 (ua_171 (by decide)) ?_)))))
      intro M157 hP158 hF159 e160
      refine wk_inc2 r215_16 rfl (wk_goto r215_19 ?_)
      exact wp_fg (le_s (le_s (le_s le_0))) (ih161 (4096 - (v145 + 1)).toNat (by omega) M157 (v145 + 1) rfl hP158 hF159 (by omega) (by omega))
  exact wp_fg (le_s (le_s (le_s le_0))) (c2_161 _ M0 0 rfl hP0 hF0 (by omega) (by omega))
