/-! ===== written by program (wip/layer4) ===== -/
def fm_m7244_9 : Nat := 0
/-- IslandHall$Tokens.value -/
theorem m7244_9 {B : eB} (d : Nat) (M0 : Mm) (x9_1 : Int) (x9_3 : Int) (x9_2 : Int) (T : Int → Int) (hP0 : Pw M0) (ex9_1 : M0 9 1 = x9_1) (lx9_1 : 0 ≤ x9_1) (ux9_1 : x9_1 ≤ 500) (ex9_3 : M0 9 3 = x9_3) (lx9_3 : 0 ≤ x9_3) (ux9_3 : x9_3 ≤ 500) (ex9_2 : M0 9 2 = x9_2) (lx9_2 : 0 ≤ x9_2) (ux9_2 : x9_2 ≤ 500) (rp0 : 0 ≤ x9_1 + (-1) * x9_2) (rp1 : 0 ≤ x9_2 + (-1) * x9_3) (xp0 : tt T x9_1 x9_3 = 2) (pp_TX : TXP T M0) (pp_TC : TCP T M0) : Ct B (d + 1) 244 [R 9] M0 (qI fun z M => Pw M ∧ Fr fm_m7244_9 M0 M ∧ (-1) ≤ z ∧ z ≤ 999 ∧ (z = vlI T x9_1 x9_3)) := by
  refine ct_of (d := d + 0) (k := 2) (L := [some (R 9), none, none]) rfl rfl rfl ?_
  have hF0 := Fr.rf fm_m7244_9 M0
  generalize hQ : (qI fun z M => Pw M ∧ Fr fm_m7244_9 M0 M ∧ (-1) ≤ z ∧ z ≤ 999 ∧ (z = vlI T x9_1 x9_3)) = Q
  have hTC := pp_TC
  unfold TCP at hTC
  rw [ex9_1, ex9_3] at hTC
  have hlt := tt_lt T x9_1 x9_3
  have hdig := dig_of pp_TC ex9_1 ex9_3 xp0
  have hvc := vlI_c T x9_1 x9_3
  have hr := ee_r (T := T) (n := x9_1) (s := x9_3) (by omega)
  refine wk_al0 r244_0 (wk_getfi r244_1 fd_9_2 ex9_2 (wk_al0 r244_4 (wk_getfi r244_5 fd_9_3 ex9_3 (wk_isub r244_8 (wk_c1 r244_9 ?_)))))
  refine wk_icle r244_10 ⟨by omega, by omega⟩ (by decide) ?_ ?_
  · intro h1
    refine wk_c1 r244_15 (wk_is1 r244_16 rfl (wk_al0 r244_17 (wk_getfi r244_18 fd_9_3 ex9_3 (wk_is2 r244_21 rfl ?_))))
    have c22_70 : ∀ (k70 : Nat) (v53 : Int) (v56 : Int), (500 - v56).toNat = k70 → 0 ≤ v53 → v53 ≤ 999 → 0 ≤ v56 → v56 ≤ 500 → 0 ≤ v56 + (-1) * x9_3 → 0 ≤ x9_2 + (-1) * v56 → (v53 = vl T x9_3 (v56 - x9_3).toNat) → Wp B (d + 0) 244 22 [some (R 9), some (I v53), some (I v56)] [] M0 Q := by
      refine lp_ind ?_
      intro k70 ih70 v53 v56 hk70 h54 h55 h57 h58 h59 h60 ti61
      refine wk_il2 r244_22 (wk_al0 r244_23 (wk_getfi r244_24 fd_9_2 ex9_2 ?_))
      refine wk_icge r244_27 ⟨by omega, by omega⟩ ⟨by omega, by omega⟩ ?_ ?_
      · intro h62
        refine wk_il1 r244_51 ?_
        subst hQ; exact wk_iret r244_52 (⟨rfl, _, rfl, hP0, hF0, by omega, by omega, by have h9 := ti61; rw [show (v56 - x9_3).toNat = (ee T x9_1 x9_3 - x9_3).toNat by omega] at h9; omega⟩)
      · intro h63
        have h64 : 0 ≤ v53 ∧ v53 ≤ 99 := by have q9 := vl_b (T := T) (s := x9_3) (v56 - x9_3).toNat (fun q a b => hdig q a (by omega)); have := q9.2.2.1 (by omega); have := ti61; omega
        refine wk_c2 r244_30 (wk_il1 r244_32 (wk_imul r244_33 (wk_al0 r244_34 (wk_getfr r244_35 fd_9_0 (br_9_0 hP0) (wk_il2 r244_38 (wk_baldb r244_39 ar_1 ⟨by omega, by omega⟩ (fun q0 q1 => ba_1 hP0 q0 q1) ?_))))))
        intro v65 h67 h68 e66
        have h69 : v65 = T v56 ∧ 48 ≤ v65 ∧ v65 ≤ 57 := by have q9 := pp_TX v56 (by omega) (by rw [ex9_1]; omega); rw [e66] at q9; have := hdig v56 (by omega) (by omega); omega
        refine wk_c2 r244_40 (wk_isub r244_42 (wk_iadd r244_43 (wk_is1 r244_44 rfl (wk_inc2 r244_45 rfl (wk_goto r244_48 ?_)))))
        exact wp_fg (le_s (le_s (le_s le_0))) (ih70 (500 - (v56 + 1)).toNat (by omega) ((10 * v53) + (v65 - 48)) (v56 + 1) rfl (by first | with_reducible assumption | omega) (by first | with_reducible assumption | omega) (by first | with_reducible assumption | omega) (by first | with_reducible assumption | omega) (by first | with_reducible assumption | omega) (by first | with_reducible assumption | omega) (by rw [vl_s (by omega)]; omega))
    exact wp_fg (le_s (le_s (le_s le_0))) (c22_70 _ 0 x9_3 rfl (by first | with_reducible assumption | omega) (by first | with_reducible assumption | omega) (by first | with_reducible assumption | omega) (by first | with_reducible assumption | omega) (by first | with_reducible assumption | omega) (by first | with_reducible assumption | omega) (by rw [Int.sub_self]; rfl))
  · intro h71
    refine wk_c1 r244_13 ?_
    subst hQ; exact wk_iret r244_14 (⟨rfl, _, rfl, hP0, hF0, by omega, by omega, by omega⟩)
def fm_m7167_6 : Nat := 3941061990809600
/-- IslandHall$Parser.number -/
theorem m7167_6 {B : eB} (d : Nat) (M0 : Mm) (p1 : Int) (p2 : Int) (x9_1 : Int) (x9_3 : Int) (x9_2 : Int) (x6_4 : Int) (x6_5 : Int) (T : Int → Int) (hP0 : Pw M0) (l1 : 0 ≤ p1) (u1 : p1 ≤ 1) (l2 : 1 ≤ p2) (u2 : p2 ≤ 99) (ex9_1 : M0 9 1 = x9_1) (lx9_1 : 0 ≤ x9_1) (ux9_1 : x9_1 ≤ 500) (ex9_3 : M0 9 3 = x9_3) (lx9_3 : 0 ≤ x9_3) (ux9_3 : x9_3 ≤ 500) (ex9_2 : M0 9 2 = x9_2) (lx9_2 : 0 ≤ x9_2) (ux9_2 : x9_2 ≤ 500) (ex6_4 : M0 6 4 = x6_4) (lx6_4 : 0 ≤ x6_4) (ux6_4 : x6_4 ≤ 6) (ex6_5 : M0 6 5 = x6_5) (lx6_5 : (-1) ≤ x6_5) (ux6_5 : x6_5 ≤ 500) (rp0 : 0 ≤ x9_1 + (-1) * x9_2) (rp1 : 0 ≤ x9_2 + (-1) * x9_3) (rp2 : 0 ≤ x9_1 + (-1) * x9_3) (pp_TX : TXP T M0) (pp_TC : TCP T M0) : Ct B (d + 3) 167 [R 6, I p1, I p2] M0 (qI fun z M => Pw M ∧ Fr fm_m7167_6 M0 M ∧ (-1) ≤ z ∧ z ≤ 99 ∧ 0 ≤ M 9 3 + (-1) * x9_3 ∧ 0 ≤ x9_1 + (-1) * (M 9 3) ∧ 0 ≤ x9_1 + (-1) * (M 9 2) ∧ 0 ≤ M 9 2 + (-1) * (M 9 3) ∧ 0 ≤ M 6 4 ∧ 0 ≤ M 6 5 + 1 ∧ 0 ≤ p2 + (-1) * z ∧ ((z = vlI T x9_1 x9_3 ∧ nuE T x9_1 x9_3 p1 p2 = 0 ∧ M 9 3 = nx T x9_1 x9_3 ∧ M 6 4 = x6_4 ∧ M 6 5 = x6_5 ∧ x9_3 + 1 ≤ M 9 3 ∧ 0 ≤ z) ∨ (z = -1 ∧ nuE T x9_1 x9_3 p1 p2 ≠ 0 ∧ M 9 3 = x9_3 ∧ M 6 4 = nuE T x9_1 x9_3 p1 p2 ∧ M 6 5 = x9_3)) ∧ (TXP T M) ∧ (TCP T M)) := by
  refine ct_of (d := d + 2) (k := 1) (L := [some (R 6), some (I p1), some (I p2), none]) rfl rfl rfl ?_
  have hF0 := Fr.rf fm_m7167_6 M0
  generalize hQ : (qI fun z M => Pw M ∧ Fr fm_m7167_6 M0 M ∧ (-1) ≤ z ∧ z ≤ 99 ∧ 0 ≤ M 9 3 + (-1) * x9_3 ∧ 0 ≤ x9_1 + (-1) * (M 9 3) ∧ 0 ≤ x9_1 + (-1) * (M 9 2) ∧ 0 ≤ M 9 2 + (-1) * (M 9 3) ∧ 0 ≤ M 6 4 ∧ 0 ≤ M 6 5 + 1 ∧ 0 ≤ p2 + (-1) * z ∧ ((z = vlI T x9_1 x9_3 ∧ nuE T x9_1 x9_3 p1 p2 = 0 ∧ M 9 3 = nx T x9_1 x9_3 ∧ M 6 4 = x6_4 ∧ M 6 5 = x6_5 ∧ x9_3 + 1 ≤ M 9 3 ∧ 0 ≤ z) ∨ (z = -1 ∧ nuE T x9_1 x9_3 p1 p2 ≠ 0 ∧ M 9 3 = x9_3 ∧ M 6 4 = nuE T x9_1 x9_3 p1 p2 ∧ M 6 5 = x9_3)) ∧ (TXP T M) ∧ (TCP T M)) = Q
  have hTC := pp_TC
  unfold TCP at hTC
  rw [ex9_1, ex9_3] at hTC
  have hlt := tt_lt T x9_1 x9_3
  refine wk_al0 r167_0 (wk_getfr r167_1 fd_6_0 (br_6_0 hP0) (wk_getfb r167_4 fd_9_4 (bf_9_4 hP0) ?_))
  intro v1 h3 h4 e2
  refine wk_c1 r167_7 ?_
  refine wk_iceq r167_8 ⟨by omega, by omega⟩ (by decide) ?_ ?_
  · intro h5
    refine wk_al0 r167_19 (wk_getfr r167_20 fd_6_0 (br_6_0 hP0) (wk_cv1 r167_23 kc_9_244 rfl (m7244_9 _ M0 x9_1 x9_3 x9_2 T hP0 ex9_1 (by first | with_reducible assumption | omega) (by first | with_reducible assumption | omega) ex9_3 (by first | with_reducible assumption | omega) (by first | with_reducible assumption | omega) ex9_2 (by first | with_reducible assumption | omega) (by first | with_reducible assumption | omega) (by omega) (by omega) (by first | assumption | omega | (unfold stepok; omega)) pp_TX pp_TC) (cqI ?_)))
    rintro v11 M6 ⟨hP7, hQ8, h12, h13, xh10⟩
    obtain rfl := Fr.same hQ8
    refine wk_is3 r167_26 rfl (wk_il3 r167_27 (wk_il1 r167_28 ?_))
    refine wk_iclt r167_29 ⟨by omega, by omega⟩ ⟨by omega, by omega⟩ ?_ ?_
    · intro h14
      refine wk_al0 r167_37 (wk_c1 r167_38 (wk_cv2 r167_39 kc_6_159 rfl (m7159_6 _ M0 2 x9_3 hP0 (by decide) (by decide) ex9_3 (by first | with_reducible assumption | omega) (by first | with_reducible assumption | omega)) (cqI ?_)))
      rintro v23 M15 ⟨hP16, hQ17, h24, h25, h19, h20, h21, h22⟩
      have hF18 : Fr fm_m7167_6 M0 M15 := hF0.tr hQ17 rfl
      obtain ⟨v26, e27⟩ : ∃ v, M15 6 4 = v := ⟨_, rfl⟩
      have h28 := (bf_6_4 hP16).1; rw [e27] at h28
      have h29 := (bf_6_4 hP16).2; rw [e27] at h29
      obtain ⟨v30, e31⟩ : ∃ v, M15 6 5 = v := ⟨_, rfl⟩
      have h32 := (bf_6_5 hP16).1; rw [e31] at h32
      have h33 := (bf_6_5 hP16).2; rw [e31] at h33
      refine wk_popi r167_42 (wk_c1 r167_43 ?_)
      subst hQ; exact wk_iret r167_44 (⟨rfl, _, rfl, hP16, hF18, by omega, by omega, by have := ((hQ17.at g_9_3 rfl).trans ex9_3); omega, by have := ((hQ17.at g_9_3 rfl).trans ex9_3); omega, by have := ((hQ17.at g_9_2 rfl).trans ex9_2); omega, by have := ((hQ17.at g_9_2 rfl).trans ex9_2); have := ((hQ17.at g_9_3 rfl).trans ex9_3); omega, by have := e27; omega, by have := e31; omega, by omega, by have := ((hQ17.at g_9_3 rfl).trans ex9_3); have := ((hQ17.at g_9_2 rfl).trans ex9_2); have := e27; have := e31; have := nuE_c T x9_1 x9_3 p1 p2; have := vlI_c T x9_1 x9_3; have := tt_lt T x9_1 x9_3; have := nx_lt (T := T) (n := x9_1) (s := x9_3) (by omega); omega, (TXP_sm (Sm.fr hQ17 rfl) pp_TX), (TCP_sm (Sm.fr hQ17 rfl) pp_TC)⟩)
    · intro h34
      refine wk_il3 r167_32 (wk_il2 r167_33 ?_)
      refine wk_icle r167_34 ⟨by omega, by omega⟩ ⟨by omega, by omega⟩ ?_ ?_
      · intro h35
        refine wk_al0 r167_45 (wk_getfr r167_46 fd_6_0 (br_6_0 hP0) (wk_cv1 r167_49 kc_9_241 rfl (m7241_9 _ M0 x9_1 x9_2 T hP0 ex9_1 (by first | with_reducible assumption | omega) (by first | with_reducible assumption | omega) ex9_2 (by first | with_reducible assumption | omega) (by first | with_reducible assumption | omega) (by omega) pp_TX) (cqV ?_)))
        rintro M36 ⟨hP37, hQ38, h40, h41, h42, h43, xh44, pr45, pr46⟩
        have hF39 : Fr fm_m7167_6 M0 M36 := hF0.tr hQ38 rfl
        obtain ⟨v47, e48⟩ : ∃ v, M36 9 3 = v := ⟨_, rfl⟩
        have h49 := (bf_9_3 hP37).1; rw [e48] at h49
        have h50 := (bf_9_3 hP37).2; rw [e48] at h50
        obtain ⟨v51, e52⟩ : ∃ v, M36 9 2 = v := ⟨_, rfl⟩
        have h53 := (bf_9_2 hP37).1; rw [e52] at h53
        have h54 := (bf_9_2 hP37).2; rw [e52] at h54
        have hn55 := nx_of pp_TC ex9_1 ex9_3 ex9_2 xh44
        refine wk_il3 r167_52 ?_
        subst hQ; exact wk_iret r167_53 (⟨rfl, _, rfl, hP37, hF39, by omega, by omega, by have := e48; omega, by have := e48; omega, by have := e52; omega, by have := e52; have := e48; omega, by have := ((hQ38.at g_6_4 rfl).trans ex6_4); omega, by have := ((hQ38.at g_6_5 rfl).trans ex6_5); omega, by omega, by have := e48; have := e52; have := ((hQ38.at g_6_4 rfl).trans ex6_4); have := ((hQ38.at g_6_5 rfl).trans ex6_5); have := nuE_c T x9_1 x9_3 p1 p2; have := vlI_c T x9_1 x9_3; have := tt_lt T x9_1 x9_3; have := nx_lt (T := T) (n := x9_1) (s := x9_3) (by omega); omega, pr45, pr46⟩)
      · intro h56
        refine wk_al0 r167_37 (wk_c1 r167_38 (wk_cv2 r167_39 kc_6_159 rfl (m7159_6 _ M0 2 x9_3 hP0 (by decide) (by decide) ex9_3 (by first | with_reducible assumption | omega) (by first | with_reducible assumption | omega)) (cqI ?_)))
        rintro v65 M57 ⟨hP58, hQ59, h66, h67, h61, h62, h63, h64⟩
        have hF60 : Fr fm_m7167_6 M0 M57 := hF0.tr hQ59 rfl
        obtain ⟨v68, e69⟩ : ∃ v, M57 6 4 = v := ⟨_, rfl⟩
        have h70 := (bf_6_4 hP58).1; rw [e69] at h70
        have h71 := (bf_6_4 hP58).2; rw [e69] at h71
        obtain ⟨v72, e73⟩ : ∃ v, M57 6 5 = v := ⟨_, rfl⟩
        have h74 := (bf_6_5 hP58).1; rw [e73] at h74
        have h75 := (bf_6_5 hP58).2; rw [e73] at h75
        refine wk_popi r167_42 (wk_c1 r167_43 ?_)
        subst hQ; exact wk_iret r167_44 (⟨rfl, _, rfl, hP58, hF60, by omega, by omega, by have := ((hQ59.at g_9_3 rfl).trans ex9_3); omega, by have := ((hQ59.at g_9_3 rfl).trans ex9_3); omega, by have := ((hQ59.at g_9_2 rfl).trans ex9_2); omega, by have := ((hQ59.at g_9_2 rfl).trans ex9_2); have := ((hQ59.at g_9_3 rfl).trans ex9_3); omega, by have := e69; omega, by have := e73; omega, by omega, by have := ((hQ59.at g_9_3 rfl).trans ex9_3); have := ((hQ59.at g_9_2 rfl).trans ex9_2); have := e69; have := e73; have := nuE_c T x9_1 x9_3 p1 p2; have := vlI_c T x9_1 x9_3; have := tt_lt T x9_1 x9_3; have := nx_lt (T := T) (n := x9_1) (s := x9_3) (by omega); omega, (TXP_sm (Sm.fr hQ59 rfl) pp_TX), (TCP_sm (Sm.fr hQ59 rfl) pp_TC)⟩)
  · intro h76
    refine wk_al0 r167_11 (wk_c1 r167_12 (wk_cv2 r167_13 kc_6_159 rfl (m7159_6 _ M0 1 x9_3 hP0 (by decide) (by decide) ex9_3 (by first | with_reducible assumption | omega) (by first | with_reducible assumption | omega)) (cqI ?_)))
    rintro v85 M77 ⟨hP78, hQ79, h86, h87, h81, h82, h83, h84⟩
    have hF80 : Fr fm_m7167_6 M0 M77 := hF0.tr hQ79 rfl
    obtain ⟨v88, e89⟩ : ∃ v, M77 6 4 = v := ⟨_, rfl⟩
    have h90 := (bf_6_4 hP78).1; rw [e89] at h90
    have h91 := (bf_6_4 hP78).2; rw [e89] at h91
    obtain ⟨v92, e93⟩ : ∃ v, M77 6 5 = v := ⟨_, rfl⟩
    have h94 := (bf_6_5 hP78).1; rw [e93] at h94
    have h95 := (bf_6_5 hP78).2; rw [e93] at h95
    refine wk_popi r167_16 (wk_c1 r167_17 ?_)
    subst hQ; exact wk_iret r167_18 (⟨rfl, _, rfl, hP78, hF80, by omega, by omega, by have := ((hQ79.at g_9_3 rfl).trans ex9_3); omega, by have := ((hQ79.at g_9_3 rfl).trans ex9_3); omega, by have := ((hQ79.at g_9_2 rfl).trans ex9_2); omega, by have := ((hQ79.at g_9_2 rfl).trans ex9_2); have := ((hQ79.at g_9_3 rfl).trans ex9_3); omega, by have := e89; omega, by have := e93; omega, by omega, by have := ((hQ79.at g_9_3 rfl).trans ex9_3); have := ((hQ79.at g_9_2 rfl).trans ex9_2); have := e89; have := e93; have := nuE_c T x9_1 x9_3 p1 p2; have := vlI_c T x9_1 x9_3; have := tt_lt T x9_1 x9_3; have := nx_lt (T := T) (n := x9_1) (s := x9_3) (by omega); omega, (TXP_sm (Sm.fr hQ79 rfl) pp_TX), (TCP_sm (Sm.fr hQ79 rfl) pp_TC)⟩)
def fm_m7138 : Nat := 4831838208
/-- IslandHall$Code.add -/
theorem m7138 {B : eB} (d : Nat) (M0 : Mm) (c0 : Int) (p1 : Int) (p2 : Int) (hP0 : Pw M0) (hC0 : isC c0) (l1 : 0 ≤ p1) (u1 : p1 ≤ 6) (l2 : 0 ≤ p2) (u2 : p2 ≤ 1279) (xp0 : stepok (p1 + 8 * p2)) : Ct B (d + 1) 138 [R c0, I p1, I p2] M0 (qV fun M => Pw M ∧ Fr fm_m7138 M0 M) := by
  refine ct_of (d := d + 0) (k := 0) (L := [some (R c0), some (I p1), some (I p2)]) rfl rfl rfl ?_
  have hF0 := Fr.rf fm_m7138 M0
  generalize hQ : (qV fun M => Pw M ∧ Fr fm_m7138 M0 M) = Q
  refine wk_al0 r138_0 (wk_getfb r138_1 (fdC_1 hC0) (bC_1 hP0 hC0) ?_)
  intro v1 h3 h4 e2
  refine wk_al0 r138_4 (wk_getfr r138_5 (fdC_0 hC0) (bC_0 hP0 hC0) (wk_alen r138_8 (arC hC0) (by decide) ?_))
  refine wk_icge r138_9 ⟨by omega, by omega⟩ (by decide) ?_ ?_
  · intro h5
    subst hQ; exact wk_ret r138_36 (⟨rfl, hP0, hF0⟩)
  · intro h6
    refine wk_al0 r138_12 (wk_getfr r138_13 (fdC_0 hC0) (bC_0 hP0 hC0) (wk_al0 r138_16 (wk_getfi r138_17 (fdC_1 hC0) e2 (wk_il1 r138_20 (wk_il2 r138_21 (wk_c1 r138_22 (wk_ishlc r138_23 (by decide) pwl_3 (wk_iord 3 8 r138_24 (by decide) ⟨by omega, by omega⟩ ⟨by omega, by omega, by omega⟩ (wk_iast r138_25 (arC hC0) ⟨by omega, by omega⟩ (wk_nw (g_cs hC0 _) rfl hP0 hF0 (uaC hC0 (by unfold stepok at *; omega)) ?_))))))))))
    intro M7 hP8 hF9 e10
    refine wk_al0 r138_26 (wk_dupr r138_27 (wk_getfi r138_28 (fdC_1 hC0) (mUp_no e10 e2 (Or.inl (by omega))) (wk_c1 r138_31 (wk_iadd r138_32 (wk_putfi81 r138_33 (fdC_1 hC0) (wk_nw (g_c1 hC0) rfl hP8 hF9 (uC_1 hC0 ⟨by omega, by omega⟩) ?_))))))
    intro M11 hP12 hF13 e14
    subst hQ; exact wk_ret r138_36 (⟨rfl, hP12, hF13⟩)
def fm_m7172_6 : Nat := 4831838208
/-- IslandHall$Parser.step -/
theorem m7172_6 {B : eB} (d : Nat) (M0 : Mm) (p1 : Int) (p2 : Int) (hP0 : Pw M0) (l1 : 0 ≤ p1) (u1 : p1 ≤ 6) (l2 : 0 ≤ p2) (u2 : p2 ≤ 1279) (xp0 : stepok (p1 + 8 * p2)) : Ct B (d + 2) 172 [R 6, I p1, I p2] M0 (qI fun z M => Pw M ∧ Fr fm_m7172_6 M0 M ∧ 1 ≤ z ∧ z ≤ 1) := by
  refine ct_of (d := d + 1) (k := 0) (L := [some (R 6), some (I p1), some (I p2)]) rfl rfl rfl ?_
  have hF0 := Fr.rf fm_m7172_6 M0
  generalize hQ : (qI fun z M => Pw M ∧ Fr fm_m7172_6 M0 M ∧ 1 ≤ z ∧ z ≤ 1) = Q
  refine wk_al0 r172_0 ?_
  obtain ⟨v1, e2⟩ : ∃ v, M0 6 2 = v := ⟨_, rfl⟩
  have hC3 : isC v1 := by have := pcE hP0; rw [e2] at this; exact this
  refine wk_getfr r172_1 fd_6_2 e2 (wk_il1 r172_4 (wk_il2 r172_5 (wk_cv3 r172_6 (kcC_138 hC3) rfl (m7138 _ M0 v1 p1 p2 hP0 hC3 (by first | with_reducible assumption | omega) (by first | with_reducible assumption | omega) (by first | with_reducible assumption | omega) (by first | with_reducible assumption | omega) (by first | assumption | omega | (unfold stepok; omega))) (cqV ?_))))
  rintro M4 ⟨hP5, hQ6⟩
  have hF7 : Fr fm_m7172_6 M0 M4 := hF0.tr hQ6 rfl
  refine wk_c1 r172_9 ?_
  subst hQ; exact wk_zret r172_10 (by decide) (⟨rfl, _, rfl, hP5, hF7, by omega, by omega⟩)
def fm_m7163_6 : Nat := 3941066822647808
/-- IslandHall$Parser.manyAtom -/
theorem m7163_6 {B : eB} (d : Nat) (M0 : Mm) (p1 : Int) (x9_1 : Int) (x9_3 : Int) (x9_2 : Int) (x6_4 : Int) (x6_5 : Int) (x6_3 : Int) (T : Int → Int) (c0 : Cg) (dd : Int) (hP0 : Pw M0) (l1 : (-1) ≤ p1) (u1 : p1 ≤ 4) (ex9_1 : M0 9 1 = x9_1) (lx9_1 : 0 ≤ x9_1) (ux9_1 : x9_1 ≤ 500) (ex9_3 : M0 9 3 = x9_3) (lx9_3 : 0 ≤ x9_3) (ux9_3 : x9_3 ≤ 500) (ex9_2 : M0 9 2 = x9_2) (lx9_2 : 0 ≤ x9_2) (ux9_2 : x9_2 ≤ 500) (ex6_4 : M0 6 4 = x6_4) (lx6_4 : 0 ≤ x6_4) (ux6_4 : x6_4 ≤ 6) (ex6_5 : M0 6 5 = x6_5) (lx6_5 : (-1) ≤ x6_5) (ux6_5 : x6_5 ≤ 500) (ex6_3 : M0 6 3 = x6_3) (lx6_3 : (-1) ≤ x6_3) (ux6_3 : x6_3 ≤ 7) (rp0 : 0 ≤ x9_1 + (-1) * x9_2) (rp1 : 0 ≤ x9_2 + (-1) * x9_3) (rp2 : 0 ≤ x9_1 + (-1) * x9_3) (xp0 : MX T x9_1 x6_3 c0 dd p1 x9_3 x6_5 x6_4) (pp_TX : TXP T M0) (pp_TC : TCP T M0) : Ct B (d + 4) 163 [R 6, I p1] M0 (qI fun z M => Pw M ∧ Fr fm_m7163_6 M0 M ∧ 0 ≤ z ∧ z ≤ 1 ∧ 0 ≤ M 9 3 + (-1) * x9_3 ∧ 0 ≤ x9_1 + (-1) * (M 9 3) ∧ 0 ≤ x9_1 + (-1) * (M 9 2) ∧ 0 ≤ M 9 2 + (-1) * (M 9 3) ∧ 0 ≤ M 6 4 ∧ 0 ≤ M 6 5 + 1 ∧ 0 ≤ p1 + 1 + (-1) * z ∧ (z = 1 → 0 ≤ M 6 4 + (-1) * x6_4) ∧ (z = 1 → 0 ≤ (-1) * (M 6 4) + x6_4) ∧ (z = 1 → 0 ≤ M 6 5 + (-1) * x6_5) ∧ (z = 1 → 0 ≤ (-1) * (M 6 5) + x6_5) ∧ ((z = 1 ∧ Rch T x9_1 x6_3 c0 (2, dd, M 9 3, 0)) ∨ (z = 0 ∧ Rch T x9_1 x6_3 c0 (3, 0, M 6 5, M 6 4))) ∧ (TXP T M) ∧ (TCP T M)) := by
  refine ct_of (d := d + 3) (k := 4) (L := [some (R 6), some (I p1), none, none, none, none]) rfl rfl rfl ?_
  have hF0 := Fr.rf fm_m7163_6 M0
  generalize hQ : (qI fun z M => Pw M ∧ Fr fm_m7163_6 M0 M ∧ 0 ≤ z ∧ z ≤ 1 ∧ 0 ≤ M 9 3 + (-1) * x9_3 ∧ 0 ≤ x9_1 + (-1) * (M 9 3) ∧ 0 ≤ x9_1 + (-1) * (M 9 2) ∧ 0 ≤ M 9 2 + (-1) * (M 9 3) ∧ 0 ≤ M 6 4 ∧ 0 ≤ M 6 5 + 1 ∧ 0 ≤ p1 + 1 + (-1) * z ∧ (z = 1 → 0 ≤ M 6 4 + (-1) * x6_4) ∧ (z = 1 → 0 ≤ (-1) * (M 6 4) + x6_4) ∧ (z = 1 → 0 ≤ M 6 5 + (-1) * x6_5) ∧ (z = 1 → 0 ≤ (-1) * (M 6 5) + x6_5) ∧ ((z = 1 ∧ Rch T x9_1 x6_3 c0 (2, dd, M 9 3, 0)) ∨ (z = 0 ∧ Rch T x9_1 x6_3 c0 (3, 0, M 6 5, M 6 4))) ∧ (TXP T M) ∧ (TCP T M)) = Q
  refine wk_il1 r163_0 (wk_c1 r163_1 ?_)
  refine wk_icne r163_2 ⟨by omega, by omega⟩ (by decide) ?_ ?_
  · intro h1
    refine wk_al0 r163_7 (wk_getfr r163_8 fd_6_0 (br_6_0 hP0) (wk_c2 r163_11 (wk_cv2 r163_13 kc_9_238 rfl (m7238_9 _ M0 60 x9_1 x9_3 T hP0 (by decide) (by decide) ex9_1 (by first | with_reducible assumption | omega) (by first | with_reducible assumption | omega) ex9_3 (by first | with_reducible assumption | omega) (by first | with_reducible assumption | omega) pp_TX pp_TC) (cqI ?_))))
    rintro v7 M2 ⟨hP3, hQ4, h8, h9, xh6⟩
    obtain rfl := Fr.same hQ4
    refine wk_ifeq r163_16 ⟨by omega, by omega⟩ ?_ ?_
    · intro h10
      refine wk_al0 r163_23 (wk_getfr r163_24 fd_6_0 (br_6_0 hP0) (wk_c2 r163_27 (wk_cv2 r163_29 kc_9_238 rfl (m7238_9 _ M0 62 x9_1 x9_3 T hP0 (by decide) (by decide) ex9_1 (by first | with_reducible assumption | omega) (by first | with_reducible assumption | omega) ex9_3 (by first | with_reducible assumption | omega) (by first | with_reducible assumption | omega) pp_TX pp_TC) (cqI ?_))))
      rintro v16 M11 ⟨hP12, hQ13, h17, h18, xh15⟩
      obtain rfl := Fr.same hQ13
      refine wk_ifeq r163_32 ⟨by omega, by omega⟩ ?_ ?_
      · intro h19
        refine wk_c1 r163_39 (wk_is2 r163_40 rfl (wk_il2 r163_41 ?_))
        refine wk_ifne r163_42 (by decide) ?_ ?_
        · intro h20
          exfalso
          omega
        · intro h21
          refine wk_al0 r163_45 (wk_getfr r163_46 fd_6_0 (br_6_0 hP0) (wk_c2 r163_49 (wk_cv2 r163_51 kc_9_238 rfl (m7238_9 _ M0 61 x9_1 x9_3 T hP0 (by decide) (by decide) ex9_1 (by first | with_reducible assumption | omega) (by first | with_reducible assumption | omega) ex9_3 (by first | with_reducible assumption | omega) (by first | with_reducible assumption | omega) pp_TX pp_TC) (cqI ?_))))
          rintro v27 M22 ⟨hP23, hQ24, h28, h29, xh26⟩
          obtain rfl := Fr.same hQ24
          refine wk_ifne r163_54 ⟨by omega, by omega⟩ ?_ ?_
          · intro h30
            refine wk_al0 r163_63 (wk_getfr r163_64 fd_6_0 (br_6_0 hP0) (wk_cv1 r163_67 kc_9_241 rfl (m7241_9 _ M0 x9_1 x9_2 T hP0 ex9_1 (by first | with_reducible assumption | omega) (by first | with_reducible assumption | omega) ex9_2 (by first | with_reducible assumption | omega) (by first | with_reducible assumption | omega) (by omega) pp_TX) (cqV ?_)))
            rintro M31 ⟨hP32, hQ33, h35, h36, h37, h38, xh39, pr40, pr41⟩
            have hF34 : Fr fm_m7163_6 M0 M31 := hF0.tr hQ33 rfl
            obtain ⟨v42, e43⟩ : ∃ v, M31 9 3 = v := ⟨_, rfl⟩
            have h44 := (bf_9_3 hP32).1; rw [e43] at h44
            have h45 := (bf_9_3 hP32).2; rw [e43] at h45
            obtain ⟨v46, e47⟩ : ∃ v, M31 9 2 = v := ⟨_, rfl⟩
            have h48 := (bf_9_2 hP32).1; rw [e47] at h48
            have h49 := (bf_9_2 hP32).2; rw [e47] at h49
            have hn50 := nx_of pp_TC ex9_1 ex9_3 ex9_2 xh39
            refine wk_al0 r163_70 (wk_c1 r163_71 (wk_c2 r163_72 (wk_cv3 r163_74 kc_6_167 rfl (m7167_6 _ M31 0 99 x9_1 v42 v46 x6_4 x6_5 T hP32 (by decide) (by decide) (by decide) (by decide) ((hQ33.at g_9_1 rfl).trans ex9_1) (by first | with_reducible assumption | omega) (by first | with_reducible assumption | omega) e43 (by first | with_reducible assumption | omega) (by first | with_reducible assumption | omega) e47 (by first | with_reducible assumption | omega) (by first | with_reducible assumption | omega) ((hQ33.at g_6_4 rfl).trans ex6_4) (by first | with_reducible assumption | omega) (by first | with_reducible assumption | omega) ((hQ33.at g_6_5 rfl).trans ex6_5) (by first | with_reducible assumption | omega) (by first | with_reducible assumption | omega) (by omega) (by omega) (by omega) pr40 pr41) (cqI ?_))))
            rintro v65 M51 ⟨hP52, hQ53, h66, h67, h55, h56, h57, h58, h59, h60, h61, xh62, pr63, pr64⟩
            have hF54 : Fr fm_m7163_6 M0 M51 := hF34.tr hQ53 rfl
            obtain ⟨v68, e69⟩ : ∃ v, M51 9 3 = v := ⟨_, rfl⟩
            have h70 := (bf_9_3 hP52).1; rw [e69] at h70
            have h71 := (bf_9_3 hP52).2; rw [e69] at h71
            obtain ⟨v72, e73⟩ : ∃ v, M51 9 2 = v := ⟨_, rfl⟩
            have h74 := (bf_9_2 hP52).1; rw [e73] at h74
            have h75 := (bf_9_2 hP52).2; rw [e73] at h75
            obtain ⟨v76, e77⟩ : ∃ v, M51 6 4 = v := ⟨_, rfl⟩
            have h78 := (bf_6_4 hP52).1; rw [e77] at h78
            have h79 := (bf_6_4 hP52).2; rw [e77] at h79
            obtain ⟨v80, e81⟩ : ∃ v, M51 6 5 = v := ⟨_, rfl⟩
            have h82 := (bf_6_5 hP52).1; rw [e81] at h82
            have h83 := (bf_6_5 hP52).2; rw [e81] at h83
            refine wk_is3 r163_77 rfl (wk_il3 r163_78 (wk_c1 r163_79 ?_))
            refine wk_icne r163_80 ⟨by omega, by omega⟩ (by decide) ?_ ?_
            · intro h84
              refine wk_il3 r163_85 (wk_c2 r163_86 (wk_min r163_88 ⟨by omega, by omega⟩ (by decide) rfl ?_))
              intro v85 h86 h87 h88
              refine wk_is4 r163_91 rfl (wk_il2 r163_93 ?_)
              refine wk_ifge r163_94 (by decide) ?_ ?_
              · intro h89
                refine wk_il2 r163_106 ?_
                refine wk_ifle r163_107 (by decide) ?_ ?_
                · intro h90
                  refine wk_c1 r163_119 (wk_il4 r163_120 (wk_shl1 8 256 r163_122 ⟨by omega, by omega⟩ ⟨pwl_8, by decide⟩ ?_))
                  intro v91 h92 h93 h94
                  refine wk_is5 r163_123 rfl (wk_al0 r163_125 (wk_c2 r163_126 (wk_il1 r163_128 (wk_c2 r163_129 (wk_ishlc r163_131 (by decide) pwl_8 (wk_il5 r163_132 (wk_c3 r163_134 (wk_iandc 8 256 r163_137 ⟨rfl, by decide⟩ rfl (wk_iord2 8 256 r163_138 (by decide) ⟨by omega, by omega⟩ ⟨by omega, by omega, by omega⟩ (wk_cv3 r163_139 kc_6_172 rfl (m7172_6 _ M51 6 ((p1 * 256) + (v91 % 256)) hP52 (by decide) (by decide) (by first | with_reducible assumption | omega) (by first | with_reducible assumption | omega) (by first | assumption | omega | (unfold stepok; omega))) (cqI ?_)))))))))))
                  rintro v100 M96 ⟨hP97, hQ98, h101, h102⟩
                  have hF99 : Fr fm_m7163_6 M0 M96 := hF54.tr hQ98 rfl
                  subst hQ; exact wk_zret r163_142 ⟨by omega, by omega⟩ (⟨rfl, _, rfl, hP97, hF99, by omega, by omega, by have := ((hQ98.at g_9_3 rfl).trans e69); omega, by have := ((hQ98.at g_9_3 rfl).trans e69); omega, by have := ((hQ98.at g_9_2 rfl).trans e73); omega, by have := ((hQ98.at g_9_2 rfl).trans e73); have := ((hQ98.at g_9_3 rfl).trans e69); omega, by have := ((hQ98.at g_6_4 rfl).trans e77); omega, by have := ((hQ98.at g_6_5 rfl).trans e81); omega, by omega, by have := ((hQ98.at g_6_4 rfl).trans e77); omega, by have := ((hQ98.at g_6_4 rfl).trans e77); omega, by have := ((hQ98.at g_6_5 rfl).trans e81); omega, by have := ((hQ98.at g_6_5 rfl).trans e81); omega, Or.inl ⟨by omega, by rw [((hQ98.at g_9_3 rfl).trans e69)]; exact MX_0 (v2 := v42) xp0 (by omega) (by omega) (by omega) (by omega) (by omega)⟩, (TXP_sm (Sm.fr hQ98 rfl) pr63), (TCP_sm (Sm.fr hQ98 rfl) pr64)⟩)
                · intro h103
                  exfalso
                  omega
              · intro h104
                exfalso
                omega
            · intro h105
              refine wk_c1 r163_83 ?_
              subst hQ; exact wk_zret r163_84 (by decide) (⟨rfl, _, rfl, hP52, hF54, by omega, by omega, by have := e69; omega, by have := e69; omega, by have := e73; omega, by have := e73; have := e69; omega, by have := e77; omega, by have := e81; omega, by omega, by omega, by omega, by omega, by omega, Or.inr ⟨by omega, by rw [e81, e77]; exact MX_e (v2 := v42) xp0 (by omega) (by omega) (by omega) (by omega) (by omega) (by omega)⟩, pr63, pr64⟩)
          · intro h106
            refine wk_al0 r163_57 (wk_c1 r163_58 (wk_cv2 r163_59 kc_6_159 rfl (m7159_6 _ M0 1 x9_3 hP0 (by decide) (by decide) ex9_3 (by first | with_reducible assumption | omega) (by first | with_reducible assumption | omega)) (cqI ?_)))
            rintro v115 M107 ⟨hP108, hQ109, h116, h117, h111, h112, h113, h114⟩
            have hF110 : Fr fm_m7163_6 M0 M107 := hF0.tr hQ109 rfl
            obtain ⟨v118, e119⟩ : ∃ v, M107 6 4 = v := ⟨_, rfl⟩
            have h120 := (bf_6_4 hP108).1; rw [e119] at h120
            have h121 := (bf_6_4 hP108).2; rw [e119] at h121
            obtain ⟨v122, e123⟩ : ∃ v, M107 6 5 = v := ⟨_, rfl⟩
            have h124 := (bf_6_5 hP108).1; rw [e123] at h124
            have h125 := (bf_6_5 hP108).2; rw [e123] at h125
            subst hQ; exact wk_zret r163_62 ⟨by omega, by omega⟩ (⟨rfl, _, rfl, hP108, hF110, by omega, by omega, by have := ((hQ109.at g_9_3 rfl).trans ex9_3); omega, by have := ((hQ109.at g_9_3 rfl).trans ex9_3); omega, by have := ((hQ109.at g_9_2 rfl).trans ex9_2); omega, by have := ((hQ109.at g_9_2 rfl).trans ex9_2); have := ((hQ109.at g_9_3 rfl).trans ex9_3); omega, by have := e119; omega, by have := e123; omega, by omega, by omega, by omega, by omega, by omega, Or.inr ⟨by omega, by rw [e123, e119]; exact MX_s xp0 (by omega) (by omega) (by omega) (by omega)⟩, (TXP_sm (Sm.fr hQ109 rfl) pp_TX), (TCP_sm (Sm.fr hQ109 rfl) pp_TC)⟩)
      · intro h126
        refine wk_c1 r163_35 (wk_goto r163_36 (wk_is2 r163_40 rfl (wk_il2 r163_41 ?_)))
        refine wk_ifne r163_42 (by decide) ?_ ?_
        · intro h127
          refine wk_al0 r163_63 (wk_getfr r163_64 fd_6_0 (br_6_0 hP0) (wk_cv1 r163_67 kc_9_241 rfl (m7241_9 _ M0 x9_1 x9_2 T hP0 ex9_1 (by first | with_reducible assumption | omega) (by first | with_reducible assumption | omega) ex9_2 (by first | with_reducible assumption | omega) (by first | with_reducible assumption | omega) (by omega) pp_TX) (cqV ?_)))
          rintro M128 ⟨hP129, hQ130, h132, h133, h134, h135, xh136, pr137, pr138⟩
          have hF131 : Fr fm_m7163_6 M0 M128 := hF0.tr hQ130 rfl
          obtain ⟨v139, e140⟩ : ∃ v, M128 9 3 = v := ⟨_, rfl⟩
          have h141 := (bf_9_3 hP129).1; rw [e140] at h141
          have h142 := (bf_9_3 hP129).2; rw [e140] at h142
          obtain ⟨v143, e144⟩ : ∃ v, M128 9 2 = v := ⟨_, rfl⟩
          have h145 := (bf_9_2 hP129).1; rw [e144] at h145
          have h146 := (bf_9_2 hP129).2; rw [e144] at h146
          have hn147 := nx_of pp_TC ex9_1 ex9_3 ex9_2 xh136
          refine wk_al0 r163_70 (wk_c1 r163_71 (wk_c2 r163_72 (wk_cv3 r163_74 kc_6_167 rfl (m7167_6 _ M128 0 99 x9_1 v139 v143 x6_4 x6_5 T hP129 (by decide) (by decide) (by decide) (by decide) ((hQ130.at g_9_1 rfl).trans ex9_1) (by first | with_reducible assumption | omega) (by first | with_reducible assumption | omega) e140 (by first | with_reducible assumption | omega) (by first | with_reducible assumption | omega) e144 (by first | with_reducible assumption | omega) (by first | with_reducible assumption | omega) ((hQ130.at g_6_4 rfl).trans ex6_4) (by first | with_reducible assumption | omega) (by first | with_reducible assumption | omega) ((hQ130.at g_6_5 rfl).trans ex6_5) (by first | with_reducible assumption | omega) (by first | with_reducible assumption | omega) (by omega) (by omega) (by omega) pr137 pr138) (cqI ?_))))
          rintro v162 M148 ⟨hP149, hQ150, h163, h164, h152, h153, h154, h155, h156, h157, h158, xh159, pr160, pr161⟩
          have hF151 : Fr fm_m7163_6 M0 M148 := hF131.tr hQ150 rfl
          obtain ⟨v165, e166⟩ : ∃ v, M148 9 3 = v := ⟨_, rfl⟩
          have h167 := (bf_9_3 hP149).1; rw [e166] at h167
          have h168 := (bf_9_3 hP149).2; rw [e166] at h168
          obtain ⟨v169, e170⟩ : ∃ v, M148 9 2 = v := ⟨_, rfl⟩
          have h171 := (bf_9_2 hP149).1; rw [e170] at h171
          have h172 := (bf_9_2 hP149).2; rw [e170] at h172
          obtain ⟨v173, e174⟩ : ∃ v, M148 6 4 = v := ⟨_, rfl⟩
          have h175 := (bf_6_4 hP149).1; rw [e174] at h175
          have h176 := (bf_6_4 hP149).2; rw [e174] at h176
          obtain ⟨v177, e178⟩ : ∃ v, M148 6 5 = v := ⟨_, rfl⟩
          have h179 := (bf_6_5 hP149).1; rw [e178] at h179
          have h180 := (bf_6_5 hP149).2; rw [e178] at h180
          refine wk_is3 r163_77 rfl (wk_il3 r163_78 (wk_c1 r163_79 ?_))
          refine wk_icne r163_80 ⟨by omega, by omega⟩ (by decide) ?_ ?_
          · intro h181
            refine wk_il3 r163_85 (wk_c2 r163_86 (wk_min r163_88 ⟨by omega, by omega⟩ (by decide) rfl ?_))
            intro v182 h183 h184 h185
            refine wk_is4 r163_91 rfl (wk_il2 r163_93 ?_)
            refine wk_ifge r163_94 (by decide) ?_ ?_
            · intro h186
              refine wk_il2 r163_106 ?_
              refine wk_ifle r163_107 (by decide) ?_ ?_
              · intro h187
                exfalso
                omega
              · intro h188
                refine wk_c1 r163_110 (wk_il4 r163_111 (wk_c1 r163_113 (wk_iadd r163_114 (wk_ishl r163_115 ⟨by omega, by omega⟩ (wk_wrap ?_)))))
                intro v189 h190 h191 h192
                refine wk_goto r163_116 (wk_is5 r163_123 rfl (wk_al0 r163_125 (wk_c2 r163_126 (wk_il1 r163_128 (wk_c2 r163_129 (wk_ishlc r163_131 (by decide) pwl_8 (wk_il5 r163_132 (wk_c3 r163_134 (wk_iandc 8 256 r163_137 ⟨rfl, by decide⟩ rfl (wk_iord2 8 256 r163_138 (by decide) ⟨by omega, by omega⟩ ⟨by omega, by omega, by omega⟩ (wk_cv3 r163_139 kc_6_172 rfl (m7172_6 _ M148 6 ((p1 * 256) + (v189 % 256)) hP149 (by decide) (by decide) (by first | with_reducible assumption | omega) (by first | with_reducible assumption | omega) (by first | assumption | omega | (unfold stepok; omega))) (cqI ?_))))))))))))
                rintro v198 M194 ⟨hP195, hQ196, h199, h200⟩
                have hF197 : Fr fm_m7163_6 M0 M194 := hF151.tr hQ196 rfl
                subst hQ; exact wk_zret r163_142 ⟨by omega, by omega⟩ (⟨rfl, _, rfl, hP195, hF197, by omega, by omega, by have := ((hQ196.at g_9_3 rfl).trans e166); omega, by have := ((hQ196.at g_9_3 rfl).trans e166); omega, by have := ((hQ196.at g_9_2 rfl).trans e170); omega, by have := ((hQ196.at g_9_2 rfl).trans e170); have := ((hQ196.at g_9_3 rfl).trans e166); omega, by have := ((hQ196.at g_6_4 rfl).trans e174); omega, by have := ((hQ196.at g_6_5 rfl).trans e178); omega, by omega, by have := ((hQ196.at g_6_4 rfl).trans e174); omega, by have := ((hQ196.at g_6_4 rfl).trans e174); omega, by have := ((hQ196.at g_6_5 rfl).trans e178); omega, by have := ((hQ196.at g_6_5 rfl).trans e178); omega, Or.inl ⟨by omega, by rw [((hQ196.at g_9_3 rfl).trans e166)]; exact MX_0 (v2 := v139) xp0 (by omega) (by omega) (by omega) (by omega) (by omega)⟩, (TXP_sm (Sm.fr hQ196 rfl) pr160), (TCP_sm (Sm.fr hQ196 rfl) pr161)⟩)
            · intro h201
              exfalso
              omega
          · intro h202
            refine wk_c1 r163_83 ?_
            subst hQ; exact wk_zret r163_84 (by decide) (⟨rfl, _, rfl, hP149, hF151, by omega, by omega, by have := e166; omega, by have := e166; omega, by have := e170; omega, by have := e170; have := e166; omega, by have := e174; omega, by have := e178; omega, by omega, by omega, by omega, by omega, by omega, Or.inr ⟨by omega, by rw [e178, e174]; exact MX_e (v2 := v139) xp0 (by omega) (by omega) (by omega) (by omega) (by omega) (by omega)⟩, pr160, pr161⟩)
        · intro h203
          exfalso
          omega
    · intro h204
      refine wk_c1 r163_19 (wk_goto r163_20 (wk_is2 r163_40 rfl (wk_il2 r163_41 ?_)))
      refine wk_ifne r163_42 (by decide) ?_ ?_
      · intro h205
        refine wk_al0 r163_63 (wk_getfr r163_64 fd_6_0 (br_6_0 hP0) (wk_cv1 r163_67 kc_9_241 rfl (m7241_9 _ M0 x9_1 x9_2 T hP0 ex9_1 (by first | with_reducible assumption | omega) (by first | with_reducible assumption | omega) ex9_2 (by first | with_reducible assumption | omega) (by first | with_reducible assumption | omega) (by omega) pp_TX) (cqV ?_)))
        rintro M206 ⟨hP207, hQ208, h210, h211, h212, h213, xh214, pr215, pr216⟩
        have hF209 : Fr fm_m7163_6 M0 M206 := hF0.tr hQ208 rfl
        obtain ⟨v217, e218⟩ : ∃ v, M206 9 3 = v := ⟨_, rfl⟩
        have h219 := (bf_9_3 hP207).1; rw [e218] at h219
        have h220 := (bf_9_3 hP207).2; rw [e218] at h220
        obtain ⟨v221, e222⟩ : ∃ v, M206 9 2 = v := ⟨_, rfl⟩
        have h223 := (bf_9_2 hP207).1; rw [e222] at h223
        have h224 := (bf_9_2 hP207).2; rw [e222] at h224
        have hn225 := nx_of pp_TC ex9_1 ex9_3 ex9_2 xh214
        refine wk_al0 r163_70 (wk_c1 r163_71 (wk_c2 r163_72 (wk_cv3 r163_74 kc_6_167 rfl (m7167_6 _ M206 0 99 x9_1 v217 v221 x6_4 x6_5 T hP207 (by decide) (by decide) (by decide) (by decide) ((hQ208.at g_9_1 rfl).trans ex9_1) (by first | with_reducible assumption | omega) (by first | with_reducible assumption | omega) e218 (by first | with_reducible assumption | omega) (by first | with_reducible assumption | omega) e222 (by first | with_reducible assumption | omega) (by first | with_reducible assumption | omega) ((hQ208.at g_6_4 rfl).trans ex6_4) (by first | with_reducible assumption | omega) (by first | with_reducible assumption | omega) ((hQ208.at g_6_5 rfl).trans ex6_5) (by first | with_reducible assumption | omega) (by first | with_reducible assumption | omega) (by omega) (by omega) (by omega) pr215 pr216) (cqI ?_))))
        rintro v240 M226 ⟨hP227, hQ228, h241, h242, h230, h231, h232, h233, h234, h235, h236, xh237, pr238, pr239⟩
        have hF229 : Fr fm_m7163_6 M0 M226 := hF209.tr hQ228 rfl
        obtain ⟨v243, e244⟩ : ∃ v, M226 9 3 = v := ⟨_, rfl⟩
        have h245 := (bf_9_3 hP227).1; rw [e244] at h245
        have h246 := (bf_9_3 hP227).2; rw [e244] at h246
        obtain ⟨v247, e248⟩ : ∃ v, M226 9 2 = v := ⟨_, rfl⟩
        have h249 := (bf_9_2 hP227).1; rw [e248] at h249
        have h250 := (bf_9_2 hP227).2; rw [e248] at h250
        obtain ⟨v251, e252⟩ : ∃ v, M226 6 4 = v := ⟨_, rfl⟩
        have h253 := (bf_6_4 hP227).1; rw [e252] at h253
        have h254 := (bf_6_4 hP227).2; rw [e252] at h254
        obtain ⟨v255, e256⟩ : ∃ v, M226 6 5 = v := ⟨_, rfl⟩
        have h257 := (bf_6_5 hP227).1; rw [e256] at h257
        have h258 := (bf_6_5 hP227).2; rw [e256] at h258
        refine wk_is3 r163_77 rfl (wk_il3 r163_78 (wk_c1 r163_79 ?_))
        refine wk_icne r163_80 ⟨by omega, by omega⟩ (by decide) ?_ ?_
        · intro h259
          refine wk_il3 r163_85 (wk_c2 r163_86 (wk_min r163_88 ⟨by omega, by omega⟩ (by decide) rfl ?_))
          intro v260 h261 h262 h263
          refine wk_is4 r163_91 rfl (wk_il2 r163_93 ?_)
          refine wk_ifge r163_94 (by decide) ?_ ?_
          · intro h264
            exfalso
            omega
          · intro h265
            refine wk_c1 r163_97 (wk_il4 r163_98 (wk_shl1 8 256 r163_100 ⟨by omega, by omega⟩ ⟨pwl_8, by decide⟩ ?_))
            intro v266 h267 h268 h269
            refine wk_c1 r163_101 (wk_isub r163_102 (wk_goto r163_103 (wk_is5 r163_123 rfl (wk_al0 r163_125 (wk_c2 r163_126 (wk_il1 r163_128 (wk_c2 r163_129 (wk_ishlc r163_131 (by decide) pwl_8 (wk_il5 r163_132 (wk_c3 r163_134 (wk_iandc 8 256 r163_137 ⟨rfl, by decide⟩ rfl (wk_iord2 8 256 r163_138 (by decide) ⟨by omega, by omega⟩ ⟨by omega, by omega, by omega⟩ (wk_cv3 r163_139 kc_6_172 rfl (m7172_6 _ M226 6 ((p1 * 256) + ((v266 - 1) % 256)) hP227 (by decide) (by decide) (by first | with_reducible assumption | omega) (by first | with_reducible assumption | omega) (by first | assumption | omega | (unfold stepok; omega))) (cqI ?_))))))))))))))
            rintro v275 M271 ⟨hP272, hQ273, h276, h277⟩
            have hF274 : Fr fm_m7163_6 M0 M271 := hF229.tr hQ273 rfl
            subst hQ; exact wk_zret r163_142 ⟨by omega, by omega⟩ (⟨rfl, _, rfl, hP272, hF274, by omega, by omega, by have := ((hQ273.at g_9_3 rfl).trans e244); omega, by have := ((hQ273.at g_9_3 rfl).trans e244); omega, by have := ((hQ273.at g_9_2 rfl).trans e248); omega, by have := ((hQ273.at g_9_2 rfl).trans e248); have := ((hQ273.at g_9_3 rfl).trans e244); omega, by have := ((hQ273.at g_6_4 rfl).trans e252); omega, by have := ((hQ273.at g_6_5 rfl).trans e256); omega, by omega, by have := ((hQ273.at g_6_4 rfl).trans e252); omega, by have := ((hQ273.at g_6_4 rfl).trans e252); omega, by have := ((hQ273.at g_6_5 rfl).trans e256); omega, by have := ((hQ273.at g_6_5 rfl).trans e256); omega, Or.inl ⟨by omega, by rw [((hQ273.at g_9_3 rfl).trans e244)]; exact MX_0 (v2 := v217) xp0 (by omega) (by omega) (by omega) (by omega) (by omega)⟩, (TXP_sm (Sm.fr hQ273 rfl) pr238), (TCP_sm (Sm.fr hQ273 rfl) pr239)⟩)
        · intro h278
          refine wk_c1 r163_83 ?_
          subst hQ; exact wk_zret r163_84 (by decide) (⟨rfl, _, rfl, hP227, hF229, by omega, by omega, by have := e244; omega, by have := e244; omega, by have := e248; omega, by have := e248; have := e244; omega, by have := e252; omega, by have := e256; omega, by omega, by omega, by omega, by omega, by omega, Or.inr ⟨by omega, by rw [e256, e252]; exact MX_e (v2 := v217) xp0 (by omega) (by omega) (by omega) (by omega) (by omega) (by omega)⟩, pr238, pr239⟩)
      · intro h279
        exfalso
        omega
  · intro h280
    refine wk_c1 r163_5 ?_
    subst hQ; exact wk_zret r163_6 (by decide) (⟨rfl, _, rfl, hP0, hF0, by omega, by omega, by have := ex9_3; omega, by have := ex9_3; omega, by have := ex9_2; omega, by have := ex9_2; have := ex9_3; omega, by have := ex6_4; omega, by have := ex6_5; omega, by omega, by omega, by omega, by omega, by omega, Or.inr ⟨by omega, by rw [ex6_5, ex6_4]; exact MX_f xp0 (by omega) (by omega) (by omega)⟩, pp_TX, pp_TC⟩)
def fm_m7140 : Nat := 6979321856
/-- IslandHall$Code.addTold -/
theorem m7140 {B : eB} (d : Nat) (M0 : Mm) (c0 : Int) (p1 : Int) (hP0 : Pw M0) (hC0 : isC c0) (l1 : 0 ≤ p1) (u1 : p1 ≤ 99) : Ct B (d + 2) 140 [R c0, I p1] M0 (qV fun M => Pw M ∧ Fr fm_m7140 M0 M) := by
  refine ct_of (d := d + 1) (k := 1) (L := [some (R c0), some (I p1), none]) rfl rfl rfl ?_
  have hF0 := Fr.rf fm_m7140 M0
  generalize hQ : (qV fun M => Pw M ∧ Fr fm_m7140 M0 M) = Q
  refine wk_il1 r140_0 (wk_c2 r140_1 ?_)
  refine wk_icge r140_3 ⟨by omega, by omega⟩ (by decide) ?_ ?_
  · intro h1
    refine wk_c1 r140_10 (wk_is2 r140_11 rfl (wk_al0 r140_12 (wk_c1 r140_13 (wk_il2 r140_14 ?_))))
    refine wk_ifeq r140_15 (by decide) ?_ ?_
    · intro h2
      refine wk_c2 r140_25 (wk_cv3 r140_27 (kcC_138 hC0) rfl (m7138 _ M0 c0 0 117 hP0 hC0 (by decide) (by decide) (by decide) (by decide) (by first | assumption | omega | (unfold stepok; omega))) (cqV ?_))
      rintro M3 ⟨hP4, hQ5⟩
      have hF6 : Fr fm_m7140 M0 M3 := hF0.tr hQ5 rfl
      refine wk_il2 r140_30 ?_
      refine wk_ifeq r140_31 (by decide) ?_ ?_
      · intro h7
        subst hQ; exact wk_ret r140_46 (⟨rfl, hP4, hF6⟩)
      · intro h8
        exfalso
        omega
    · intro h9
      exfalso
      omega
  · intro h10
    refine wk_c1 r140_6 (wk_goto r140_7 (wk_is2 r140_11 rfl (wk_al0 r140_12 (wk_c1 r140_13 (wk_il2 r140_14 ?_)))))
    refine wk_ifeq r140_15 (by decide) ?_ ?_
    · intro h11
      exfalso
      omega
    · intro h12
      refine wk_c2 r140_18 (wk_il1 r140_20 (wk_iadd r140_21 (wk_goto r140_22 (wk_cv3 r140_27 (kcC_138 hC0) rfl (m7138 _ M0 c0 0 (102 + p1) hP0 hC0 (by decide) (by decide) (by first | with_reducible assumption | omega) (by first | with_reducible assumption | omega) (by first | assumption | omega | (unfold stepok; omega))) (cqV ?_)))))
      rintro M13 ⟨hP14, hQ15⟩
      have hF16 : Fr fm_m7140 M0 M13 := hF0.tr hQ15 rfl
      refine wk_il2 r140_30 ?_
      refine wk_ifeq r140_31 (by decide) ?_ ?_
      · intro h17
        exfalso
        omega
      · intro h18
        refine wk_al0 r140_34 (wk_dupr r140_35 (wk_getfb r140_36 (fdC_3 hC0) (bC_3 hP14 hC0) ?_))
        intro v19 h21 h22 e20
        refine wk_c1 r140_39 (wk_il1 r140_40 (wk_shl1 14 16384 r140_41 ⟨by omega, by omega⟩ ⟨pwl_14, by decide⟩ ?_))
        intro v23 h24 h25 h26
        refine wk_ior 15 32768 r140_42 (by decide) ⟨by omega, by omega⟩ ⟨by omega, by omega⟩ ?_
        intro v27 h28 h29 h30 h31 h32
        refine wk_putfi81 r140_43 (fdC_3 hC0) (wk_nw (g_c3 hC0) rfl hP14 hF16 (uC_3 hC0 ⟨by omega, by omega⟩) ?_)
        intro M33 hP34 hF35 e36
        subst hQ; exact wk_ret r140_46 (⟨rfl, hP34, hF35⟩)
def fm_m7176_6 : Nat := 3941068970131456
/-- IslandHall$Parser.toldAtom -/
theorem m7176_6 {B : eB} (d : Nat) (M0 : Mm) (x9_1 : Int) (x9_3 : Int) (x9_2 : Int) (x6_4 : Int) (x6_5 : Int) (x6_3 : Int) (T : Int → Int) (c0 : Cg) (dd : Int) (hP0 : Pw M0) (ex9_1 : M0 9 1 = x9_1) (lx9_1 : 0 ≤ x9_1) (ux9_1 : x9_1 ≤ 500) (ex9_3 : M0 9 3 = x9_3) (lx9_3 : 0 ≤ x9_3) (ux9_3 : x9_3 ≤ 500) (ex9_2 : M0 9 2 = x9_2) (lx9_2 : 0 ≤ x9_2) (ux9_2 : x9_2 ≤ 500) (ex6_4 : M0 6 4 = x6_4) (lx6_4 : 0 ≤ x6_4) (ux6_4 : x6_4 ≤ 6) (ex6_5 : M0 6 5 = x6_5) (lx6_5 : (-1) ≤ x6_5) (ux6_5 : x6_5 ≤ 500) (ex6_3 : M0 6 3 = x6_3) (lx6_3 : (-1) ≤ x6_3) (ux6_3 : x6_3 ≤ 7) (rp0 : 0 ≤ x9_1 + (-1) * x9_2) (rp1 : 0 ≤ x9_2 + (-1) * x9_3) (rp2 : 0 ≤ x9_1 + (-1) * x9_3) (xp0 : AX T x9_1 x6_3 c0 dd 99 x9_3) (pp_TX : TXP T M0) (pp_TC : TCP T M0) : Ct B (d + 4) 176 [R 6] M0 (qI fun z M => Pw M ∧ Fr fm_m7176_6 M0 M ∧ 0 ≤ z ∧ z ≤ 1 ∧ 0 ≤ M 9 3 + (-1) * x9_3 ∧ 0 ≤ x9_1 + (-1) * (M 9 3) ∧ 0 ≤ x9_1 + (-1) * (M 9 2) ∧ 0 ≤ M 9 2 + (-1) * (M 9 3) ∧ 0 ≤ M 6 4 ∧ 0 ≤ M 6 5 + 1 ∧ (z = 1 → 0 ≤ M 6 4 + (-1) * x6_4) ∧ (z = 1 → 0 ≤ (-1) * (M 6 4) + x6_4) ∧ (z = 1 → 0 ≤ M 6 5 + (-1) * x6_5) ∧ (z = 1 → 0 ≤ (-1) * (M 6 5) + x6_5) ∧ ((z = 1 ∧ Rch T x9_1 x6_3 c0 (2, dd, M 9 3, 0)) ∨ (z = 0 ∧ Rch T x9_1 x6_3 c0 (3, 0, M 6 5, M 6 4))) ∧ (TXP T M) ∧ (TCP T M)) := by
  refine ct_of (d := d + 3) (k := 1) (L := [some (R 6), none]) rfl rfl rfl ?_
  have hF0 := Fr.rf fm_m7176_6 M0
  generalize hQ : (qI fun z M => Pw M ∧ Fr fm_m7176_6 M0 M ∧ 0 ≤ z ∧ z ≤ 1 ∧ 0 ≤ M 9 3 + (-1) * x9_3 ∧ 0 ≤ x9_1 + (-1) * (M 9 3) ∧ 0 ≤ x9_1 + (-1) * (M 9 2) ∧ 0 ≤ M 9 2 + (-1) * (M 9 3) ∧ 0 ≤ M 6 4 ∧ 0 ≤ M 6 5 + 1 ∧ (z = 1 → 0 ≤ M 6 4 + (-1) * x6_4) ∧ (z = 1 → 0 ≤ (-1) * (M 6 4) + x6_4) ∧ (z = 1 → 0 ≤ M 6 5 + (-1) * x6_5) ∧ (z = 1 → 0 ≤ (-1) * (M 6 5) + x6_5) ∧ ((z = 1 ∧ Rch T x9_1 x6_3 c0 (2, dd, M 9 3, 0)) ∨ (z = 0 ∧ Rch T x9_1 x6_3 c0 (3, 0, M 6 5, M 6 4))) ∧ (TXP T M) ∧ (TCP T M)) = Q
  refine wk_al0 r176_0 (wk_c1 r176_1 (wk_c2 r176_2 (wk_cv3 r176_4 kc_6_167 rfl (m7167_6 _ M0 0 99 x9_1 x9_3 x9_2 x6_4 x6_5 T hP0 (by decide) (by decide) (by decide) (by decide) ex9_1 (by first | with_reducible assumption | omega) (by first | with_reducible assumption | omega) ex9_3 (by first | with_reducible assumption | omega) (by first | with_reducible assumption | omega) ex9_2 (by first | with_reducible assumption | omega) (by first | with_reducible assumption | omega) ex6_4 (by first | with_reducible assumption | omega) (by first | with_reducible assumption | omega) ex6_5 (by first | with_reducible assumption | omega) (by first | with_reducible assumption | omega) (by omega) (by omega) (by omega) pp_TX pp_TC) (cqI ?_))))
  rintro v15 M1 ⟨hP2, hQ3, h16, h17, h5, h6, h7, h8, h9, h10, h11, xh12, pr13, pr14⟩
  have hF4 : Fr fm_m7176_6 M0 M1 := hF0.tr hQ3 rfl
  obtain ⟨v18, e19⟩ : ∃ v, M1 9 3 = v := ⟨_, rfl⟩
  have h20 := (bf_9_3 hP2).1; rw [e19] at h20
  have h21 := (bf_9_3 hP2).2; rw [e19] at h21
  obtain ⟨v22, e23⟩ : ∃ v, M1 9 2 = v := ⟨_, rfl⟩
  have h24 := (bf_9_2 hP2).1; rw [e23] at h24
  have h25 := (bf_9_2 hP2).2; rw [e23] at h25
  obtain ⟨v26, e27⟩ : ∃ v, M1 6 4 = v := ⟨_, rfl⟩
  have h28 := (bf_6_4 hP2).1; rw [e27] at h28
  have h29 := (bf_6_4 hP2).2; rw [e27] at h29
  obtain ⟨v30, e31⟩ : ∃ v, M1 6 5 = v := ⟨_, rfl⟩
  have h32 := (bf_6_5 hP2).1; rw [e31] at h32
  have h33 := (bf_6_5 hP2).2; rw [e31] at h33
  refine wk_is1 r176_7 rfl (wk_il1 r176_8 (wk_c1 r176_9 ?_))
  refine wk_icne r176_10 ⟨by omega, by omega⟩ (by decide) ?_ ?_
  · intro h34
    refine wk_al0 r176_15 ?_
    obtain ⟨v35, e36⟩ : ∃ v, M1 6 2 = v := ⟨_, rfl⟩
    have hC37 : isC v35 := by have := pcE hP2; rw [e36] at this; exact this
    refine wk_getfr r176_16 fd_6_2 e36 (wk_il1 r176_19 (wk_cv2 r176_20 (kcC_140 hC37) rfl (m7140 _ M1 v35 v15 hP2 hC37 (by first | with_reducible assumption | omega) (by first | with_reducible assumption | omega)) (cqV ?_)))
    rintro M38 ⟨hP39, hQ40⟩
    have hF41 : Fr fm_m7176_6 M0 M38 := hF4.tr hQ40 rfl
    refine wk_c1 r176_23 ?_
    subst hQ; exact wk_zret r176_24 (by decide) (⟨rfl, _, rfl, hP39, hF41, by omega, by omega, by have := ((hQ40.at g_9_3 rfl).trans e19); omega, by have := ((hQ40.at g_9_3 rfl).trans e19); omega, by have := ((hQ40.at g_9_2 rfl).trans e23); omega, by have := ((hQ40.at g_9_2 rfl).trans e23); have := ((hQ40.at g_9_3 rfl).trans e19); omega, by have := ((hQ40.at g_6_4 rfl).trans e27); omega, by have := ((hQ40.at g_6_5 rfl).trans e31); omega, by have := ((hQ40.at g_6_4 rfl).trans e27); omega, by have := ((hQ40.at g_6_4 rfl).trans e27); omega, by have := ((hQ40.at g_6_5 rfl).trans e31); omega, by have := ((hQ40.at g_6_5 rfl).trans e31); omega, Or.inl ⟨by omega, by rw [((hQ40.at g_9_3 rfl).trans e19)]; exact AX_0 xp0 (by omega) (by omega)⟩, (TXP_sm (Sm.fr hQ40 rfl) pr13), (TCP_sm (Sm.fr hQ40 rfl) pr14)⟩)
  · intro h42
    refine wk_c1 r176_13 ?_
    subst hQ; exact wk_zret r176_14 (by decide) (⟨rfl, _, rfl, hP2, hF4, by omega, by omega, by have := e19; omega, by have := e19; omega, by have := e23; omega, by have := e23; have := e19; omega, by have := e27; omega, by have := e31; omega, by omega, by omega, by omega, by omega, Or.inr ⟨by omega, by rw [e31, e27]; exact AX_e xp0 (by omega) (by omega) (by omega)⟩, pr13, pr14⟩)
def fm_m7171_6 : Nat := 4831838208
/-- IslandHall$Parser.row -/
theorem m7171_6 {B : eB} (d : Nat) (M0 : Mm) (p1 : Int) (p2 : Int) (hP0 : Pw M0) (l1 : 46 ≤ p1) (u1 : p1 ≤ 46) (l2 : (-1) ≤ p2) (u2 : p2 ≤ 1) : Ct B (d + 3) 171 [R 6, I p1, I p2] M0 (qI fun z M => Pw M ∧ Fr fm_m7171_6 M0 M ∧ 0 ≤ z ∧ z ≤ 1 ∧ ((z = 1 ∧ p2 ≠ -1) ∨ (z = 0 ∧ p2 = -1))) := by
  refine ct_of (d := d + 2) (k := 0) (L := [some (R 6), some (I p1), some (I p2)]) rfl rfl rfl ?_
  have hF0 := Fr.rf fm_m7171_6 M0
  generalize hQ : (qI fun z M => Pw M ∧ Fr fm_m7171_6 M0 M ∧ 0 ≤ z ∧ z ≤ 1 ∧ ((z = 1 ∧ p2 ≠ -1) ∨ (z = 0 ∧ p2 = -1))) = Q
  refine wk_il2 r171_0 (wk_c1 r171_1 ?_)
  refine wk_iceq r171_2 ⟨by omega, by omega⟩ (by decide) ?_ ?_
  · intro h1
    refine wk_c1 r171_20 ?_
    subst hQ; exact wk_zret r171_21 (by decide) (⟨rfl, _, rfl, hP0, hF0, by omega, by omega, by omega⟩)
  · intro h2
    refine wk_al0 r171_5 (wk_c1 r171_6 (wk_il1 r171_7 (wk_il2 r171_8 (wk_iadd r171_9 (wk_cv3 r171_10 kc_6_172 rfl (m7172_6 _ M0 0 (p1 + p2) hP0 (by decide) (by decide) (by first | with_reducible assumption | omega) (by first | with_reducible assumption | omega) (by first | assumption | omega | (unfold stepok; omega))) (cqI ?_))))))
    rintro v7 M3 ⟨hP4, hQ5, h8, h9⟩
    have hF6 : Fr fm_m7171_6 M0 M3 := hF0.tr hQ5 rfl
    refine wk_ifeq r171_13 ⟨by omega, by omega⟩ ?_ ?_
    · intro h10
      exfalso
      omega
    · intro h11
      refine wk_c1 r171_16 (wk_goto r171_17 ?_)
      subst hQ; exact wk_zret r171_21 (by decide) (⟨rfl, _, rfl, hP4, hF6, by omega, by omega, by omega⟩)
def fm_m7171_6v1 : Nat := 4831838208
/-- IslandHall$Parser.row -/
theorem m7171_6v1 {B : eB} (d : Nat) (M0 : Mm) (p1 : Int) (p2 : Int) (hP0 : Pw M0) (l1 : 39 ≤ p1) (u1 : p1 ≤ 39) (l2 : (-1) ≤ p2) (u2 : p2 ≤ 6) : Ct B (d + 3) 171 [R 6, I p1, I p2] M0 (qI fun z M => Pw M ∧ Fr fm_m7171_6v1 M0 M ∧ 0 ≤ z ∧ z ≤ 1 ∧ ((z = 1 ∧ p2 ≠ -1) ∨ (z = 0 ∧ p2 = -1))) := by
  refine ct_of (d := d + 2) (k := 0) (L := [some (R 6), some (I p1), some (I p2)]) rfl rfl rfl ?_
  have hF0 := Fr.rf fm_m7171_6v1 M0
  generalize hQ : (qI fun z M => Pw M ∧ Fr fm_m7171_6v1 M0 M ∧ 0 ≤ z ∧ z ≤ 1 ∧ ((z = 1 ∧ p2 ≠ -1) ∨ (z = 0 ∧ p2 = -1))) = Q
  refine wk_il2 r171_0 (wk_c1 r171_1 ?_)
  refine wk_iceq r171_2 ⟨by omega, by omega⟩ (by decide) ?_ ?_
  · intro h1
    refine wk_c1 r171_20 ?_
    subst hQ; exact wk_zret r171_21 (by decide) (⟨rfl, _, rfl, hP0, hF0, by omega, by omega, by omega⟩)
  · intro h2
    refine wk_al0 r171_5 (wk_c1 r171_6 (wk_il1 r171_7 (wk_il2 r171_8 (wk_iadd r171_9 (wk_cv3 r171_10 kc_6_172 rfl (m7172_6 _ M0 0 (p1 + p2) hP0 (by decide) (by decide) (by first | with_reducible assumption | omega) (by first | with_reducible assumption | omega) (by first | assumption | omega | (unfold stepok; omega))) (cqI ?_))))))
    rintro v7 M3 ⟨hP4, hQ5, h8, h9⟩
    have hF6 : Fr fm_m7171_6v1 M0 M3 := hF0.tr hQ5 rfl
    refine wk_ifeq r171_13 ⟨by omega, by omega⟩ ?_ ?_
    · intro h10
      exfalso
      omega
    · intro h11
      refine wk_c1 r171_16 (wk_goto r171_17 ?_)
      subst hQ; exact wk_zret r171_21 (by decide) (⟨rfl, _, rfl, hP4, hF6, by omega, by omega, by omega⟩)
def fm_m7171_6v2 : Nat := 4831838208
/-- IslandHall$Parser.row -/
theorem m7171_6v2 {B : eB} (d : Nat) (M0 : Mm) (p1 : Int) (p2 : Int) (hP0 : Pw M0) (l1 : 35 ≤ p1) (u1 : p1 ≤ 35) (l2 : (-1) ≤ p2) (u2 : p2 ≤ 3) : Ct B (d + 3) 171 [R 6, I p1, I p2] M0 (qI fun z M => Pw M ∧ Fr fm_m7171_6v2 M0 M ∧ 0 ≤ z ∧ z ≤ 1 ∧ ((z = 1 ∧ p2 ≠ -1) ∨ (z = 0 ∧ p2 = -1))) := by
  refine ct_of (d := d + 2) (k := 0) (L := [some (R 6), some (I p1), some (I p2)]) rfl rfl rfl ?_
  have hF0 := Fr.rf fm_m7171_6v2 M0
  generalize hQ : (qI fun z M => Pw M ∧ Fr fm_m7171_6v2 M0 M ∧ 0 ≤ z ∧ z ≤ 1 ∧ ((z = 1 ∧ p2 ≠ -1) ∨ (z = 0 ∧ p2 = -1))) = Q
  refine wk_il2 r171_0 (wk_c1 r171_1 ?_)
  refine wk_iceq r171_2 ⟨by omega, by omega⟩ (by decide) ?_ ?_
  · intro h1
    refine wk_c1 r171_20 ?_
    subst hQ; exact wk_zret r171_21 (by decide) (⟨rfl, _, rfl, hP0, hF0, by omega, by omega, by omega⟩)
  · intro h2
    refine wk_al0 r171_5 (wk_c1 r171_6 (wk_il1 r171_7 (wk_il2 r171_8 (wk_iadd r171_9 (wk_cv3 r171_10 kc_6_172 rfl (m7172_6 _ M0 0 (p1 + p2) hP0 (by decide) (by decide) (by first | with_reducible assumption | omega) (by first | with_reducible assumption | omega) (by first | assumption | omega | (unfold stepok; omega))) (cqI ?_))))))
    rintro v7 M3 ⟨hP4, hQ5, h8, h9⟩
    have hF6 : Fr fm_m7171_6v2 M0 M3 := hF0.tr hQ5 rfl
    refine wk_ifeq r171_13 ⟨by omega, by omega⟩ ?_ ?_
    · intro h10
      exfalso
      omega
    · intro h11
      refine wk_c1 r171_16 (wk_goto r171_17 ?_)
      subst hQ; exact wk_zret r171_21 (by decide) (⟨rfl, _, rfl, hP4, hF6, by omega, by omega, by omega⟩)
def fm_m7242_9 : Nat := 0
/-- IslandHall$Tokens.person -/
theorem m7242_9 {B : eB} (d : Nat) (M0 : Mm) (x9_1 : Int) (x9_3 : Int) (T : Int → Int) (hP0 : Pw M0) (ex9_1 : M0 9 1 = x9_1) (lx9_1 : 0 ≤ x9_1) (ux9_1 : x9_1 ≤ 500) (ex9_3 : M0 9 3 = x9_3) (lx9_3 : 0 ≤ x9_3) (ux9_3 : x9_3 ≤ 500) (xp0 : nmI T x9_1 x9_3 = 1) (pp_TX : TXP T M0) (pp_TC : TCP T M0) : Ct B (d + 1) 242 [R 9] M0 (qI fun z M => Pw M ∧ Fr fm_m7242_9 M0 M ∧ (-225) ≤ z ∧ z ≤ 30 ∧ (z = T x9_3 - 97)) := by
  refine ct_of (d := d + 0) (k := 0) (L := [some (R 9)]) rfl rfl rfl ?_
  have hF0 := Fr.rf fm_m7242_9 M0
  generalize hQ : (qI fun z M => Pw M ∧ Fr fm_m7242_9 M0 M ∧ (-225) ≤ z ∧ z ≤ 30 ∧ (z = T x9_3 - 97)) = Q
  have hTC := pp_TC
  unfold TCP at hTC
  rw [ex9_1, ex9_3] at hTC
  have hlt := tt_lt T x9_1 x9_3
  have hnm := nmI_c T x9_1 x9_3
  have hlet := let_of pp_TC ex9_1 ex9_3 (by omega) x9_3 (by omega) (by omega)
  refine wk_al0 r242_0 (wk_getfr r242_1 fd_9_0 (br_9_0 hP0) (wk_al0 r242_4 (wk_getfi r242_5 fd_9_3 ex9_3 (wk_baldb r242_8 ar_1 ⟨by omega, by omega⟩ (fun q0 q1 => ba_1 hP0 q0 q1) ?_))))
  intro v1 h3 h4 e2
  refine wk_c2 r242_9 (wk_isub r242_11 ?_)
  subst hQ; exact wk_iret r242_12 (⟨rfl, _, rfl, hP0, hF0, by omega, by omega, by have q9 := pp_TX x9_3 (by omega) (by rw [ex9_1]; omega); rw [e2] at q9; omega⟩)
def fm_m7165_6 : Nat := 3941061990809600
/-- IslandHall$Parser.name -/
theorem m7165_6 {B : eB} (d : Nat) (M0 : Mm) (x9_1 : Int) (x9_3 : Int) (x9_2 : Int) (x6_4 : Int) (x6_5 : Int) (x6_3 : Int) (T : Int → Int) (hP0 : Pw M0) (ex9_1 : M0 9 1 = x9_1) (lx9_1 : 0 ≤ x9_1) (ux9_1 : x9_1 ≤ 500) (ex9_3 : M0 9 3 = x9_3) (lx9_3 : 0 ≤ x9_3) (ux9_3 : x9_3 ≤ 500) (ex9_2 : M0 9 2 = x9_2) (lx9_2 : 0 ≤ x9_2) (ux9_2 : x9_2 ≤ 500) (ex6_4 : M0 6 4 = x6_4) (lx6_4 : 0 ≤ x6_4) (ux6_4 : x6_4 ≤ 6) (ex6_5 : M0 6 5 = x6_5) (lx6_5 : (-1) ≤ x6_5) (ux6_5 : x6_5 ≤ 500) (ex6_3 : M0 6 3 = x6_3) (lx6_3 : (-1) ≤ x6_3) (ux6_3 : x6_3 ≤ 7) (rp0 : 0 ≤ x9_1 + (-1) * x9_2) (rp1 : 0 ≤ x9_2 + (-1) * x9_3) (rp2 : 0 ≤ x9_1 + (-1) * x9_3) (pp_TX : TXP T M0) (pp_TC : TCP T M0) : Ct B (d + 3) 165 [R 6] M0 (qI fun z M => Pw M ∧ Fr fm_m7165_6 M0 M ∧ (-1) ≤ z ∧ z ≤ 6 ∧ 0 ≤ M 9 3 + (-1) * x9_3 ∧ 0 ≤ x9_1 + (-1) * (M 9 3) ∧ 0 ≤ x9_1 + (-1) * (M 9 2) ∧ 0 ≤ M 9 2 + (-1) * (M 9 3) ∧ 0 ≤ M 6 4 ∧ 0 ≤ M 6 5 + 1 ∧ ((z = T x9_3 - 97 ∧ naE T x9_1 x6_3 x9_3 = 0 ∧ M 9 3 = nx T x9_1 x9_3 ∧ M 6 4 = x6_4 ∧ M 6 5 = x6_5 ∧ x9_3 + 1 ≤ M 9 3 ∧ 0 ≤ z) ∨ (z = -1 ∧ naE T x9_1 x6_3 x9_3 ≠ 0 ∧ M 9 3 = x9_3 ∧ M 6 4 = naE T x9_1 x6_3 x9_3 ∧ M 6 5 = x9_3)) ∧ (TXP T M) ∧ (TCP T M)) := by
  refine ct_of (d := d + 2) (k := 1) (L := [some (R 6), none]) rfl rfl rfl ?_
  have hF0 := Fr.rf fm_m7165_6 M0
  generalize hQ : (qI fun z M => Pw M ∧ Fr fm_m7165_6 M0 M ∧ (-1) ≤ z ∧ z ≤ 6 ∧ 0 ≤ M 9 3 + (-1) * x9_3 ∧ 0 ≤ x9_1 + (-1) * (M 9 3) ∧ 0 ≤ x9_1 + (-1) * (M 9 2) ∧ 0 ≤ M 9 2 + (-1) * (M 9 3) ∧ 0 ≤ M 6 4 ∧ 0 ≤ M 6 5 + 1 ∧ ((z = T x9_3 - 97 ∧ naE T x9_1 x6_3 x9_3 = 0 ∧ M 9 3 = nx T x9_1 x9_3 ∧ M 6 4 = x6_4 ∧ M 6 5 = x6_5 ∧ x9_3 + 1 ≤ M 9 3 ∧ 0 ≤ z) ∨ (z = -1 ∧ naE T x9_1 x6_3 x9_3 ≠ 0 ∧ M 9 3 = x9_3 ∧ M 6 4 = naE T x9_1 x6_3 x9_3 ∧ M 6 5 = x9_3)) ∧ (TXP T M) ∧ (TCP T M)) = Q
  have hTC := pp_TC
  unfold TCP at hTC
  rw [ex9_1, ex9_3] at hTC
  have hlt := tt_lt T x9_1 x9_3
  refine wk_al0 r165_0 (wk_getfr r165_1 fd_6_0 (br_6_0 hP0) (wk_cv1 r165_4 kc_9_237 rfl (m7237_9 _ M0 x9_1 x9_3 T hP0 ex9_1 (by first | with_reducible assumption | omega) (by first | with_reducible assumption | omega) ex9_3 (by first | with_reducible assumption | omega) (by first | with_reducible assumption | omega) pp_TX pp_TC) (cqI ?_)))
  rintro v6 M1 ⟨hP2, hQ3, h7, h8, xh5⟩
  obtain rfl := Fr.same hQ3
  refine wk_ifne r165_7 ⟨by omega, by omega⟩ ?_ ?_
  · intro h9
    refine wk_al0 r165_18 (wk_getfr r165_19 fd_6_0 (br_6_0 hP0) ?_)
    have hnm := nmI_c T x9_1 x9_3
    refine wk_cv1 r165_22 kc_9_242 rfl (m7242_9 _ M0 x9_1 x9_3 T hP0 ex9_1 (by first | with_reducible assumption | omega) (by first | with_reducible assumption | omega) ex9_3 (by first | with_reducible assumption | omega) (by first | with_reducible assumption | omega) (by first | assumption | omega | (unfold stepok; omega)) pp_TX pp_TC) (cqI ?_)
    rintro v15 M10 ⟨hP11, hQ12, h16, h17, xh14⟩
    obtain rfl := Fr.same hQ12
    refine wk_is1 r165_25 rfl ?_
    have hl9 := let_of pp_TC ex9_1 ex9_3 (by omega) x9_3 (by omega) (by omega)
    have h18 : 0 ≤ v15 := by omega
    refine wk_il1 r165_26 ?_
    refine wk_iflt r165_27 ⟨by omega, by omega⟩ ?_ ?_
    · intro h19
      exfalso
      omega
    · intro h20
      refine wk_il1 r165_30 (wk_al0 r165_31 (wk_getfi r165_32 fd_6_3 ex6_3 ?_))
      refine wk_iclt r165_35 ⟨by omega, by omega⟩ ⟨by omega, by omega⟩ ?_ ?_
      · intro h21
        refine wk_al0 r165_46 (wk_getfr r165_47 fd_6_0 (br_6_0 hP0) (wk_cv1 r165_50 kc_9_241 rfl (m7241_9 _ M0 x9_1 x9_2 T hP0 ex9_1 (by first | with_reducible assumption | omega) (by first | with_reducible assumption | omega) ex9_2 (by first | with_reducible assumption | omega) (by first | with_reducible assumption | omega) (by omega) pp_TX) (cqV ?_)))
        rintro M22 ⟨hP23, hQ24, h26, h27, h28, h29, xh30, pr31, pr32⟩
        have hF25 : Fr fm_m7165_6 M0 M22 := hF0.tr hQ24 rfl
        obtain ⟨v33, e34⟩ : ∃ v, M22 9 3 = v := ⟨_, rfl⟩
        have h35 := (bf_9_3 hP23).1; rw [e34] at h35
        have h36 := (bf_9_3 hP23).2; rw [e34] at h36
        obtain ⟨v37, e38⟩ : ∃ v, M22 9 2 = v := ⟨_, rfl⟩
        have h39 := (bf_9_2 hP23).1; rw [e38] at h39
        have h40 := (bf_9_2 hP23).2; rw [e38] at h40
        have hn41 := nx_of pp_TC ex9_1 ex9_3 ex9_2 xh30
        refine wk_il1 r165_53 ?_
        subst hQ; exact wk_iret r165_54 (⟨rfl, _, rfl, hP23, hF25, by omega, by omega, by have := e34; omega, by have := e34; omega, by have := e38; omega, by have := e38; have := e34; omega, by have := ((hQ24.at g_6_4 rfl).trans ex6_4); omega, by have := ((hQ24.at g_6_5 rfl).trans ex6_5); omega, by have := e34; have := e38; have := ((hQ24.at g_6_4 rfl).trans ex6_4); have := ((hQ24.at g_6_5 rfl).trans ex6_5); have := naE_c T x9_1 x6_3 x9_3; have := nmI_c T x9_1 x9_3; have := tt_lt T x9_1 x9_3; have := nx_lt (T := T) (n := x9_1) (s := x9_3) (by omega); omega, pr31, pr32⟩)
      · intro h42
        refine wk_al0 r165_38 (wk_c1 r165_39 (wk_cv2 r165_40 kc_6_159 rfl (m7159_6 _ M0 4 x9_3 hP0 (by decide) (by decide) ex9_3 (by first | with_reducible assumption | omega) (by first | with_reducible assumption | omega)) (cqI ?_)))
        rintro v51 M43 ⟨hP44, hQ45, h52, h53, h47, h48, h49, h50⟩
        have hF46 : Fr fm_m7165_6 M0 M43 := hF0.tr hQ45 rfl
        obtain ⟨v54, e55⟩ : ∃ v, M43 6 4 = v := ⟨_, rfl⟩
        have h56 := (bf_6_4 hP44).1; rw [e55] at h56
        have h57 := (bf_6_4 hP44).2; rw [e55] at h57
        obtain ⟨v58, e59⟩ : ∃ v, M43 6 5 = v := ⟨_, rfl⟩
        have h60 := (bf_6_5 hP44).1; rw [e59] at h60
        have h61 := (bf_6_5 hP44).2; rw [e59] at h61
        refine wk_popi r165_43 (wk_c1 r165_44 ?_)
        subst hQ; exact wk_iret r165_45 (⟨rfl, _, rfl, hP44, hF46, by omega, by omega, by have := ((hQ45.at g_9_3 rfl).trans ex9_3); omega, by have := ((hQ45.at g_9_3 rfl).trans ex9_3); omega, by have := ((hQ45.at g_9_2 rfl).trans ex9_2); omega, by have := ((hQ45.at g_9_2 rfl).trans ex9_2); have := ((hQ45.at g_9_3 rfl).trans ex9_3); omega, by have := e55; omega, by have := e59; omega, by have := ((hQ45.at g_9_3 rfl).trans ex9_3); have := ((hQ45.at g_9_2 rfl).trans ex9_2); have := e55; have := e59; have := naE_c T x9_1 x6_3 x9_3; have := nmI_c T x9_1 x9_3; have := tt_lt T x9_1 x9_3; have := nx_lt (T := T) (n := x9_1) (s := x9_3) (by omega); omega, (TXP_sm (Sm.fr hQ45 rfl) pp_TX), (TCP_sm (Sm.fr hQ45 rfl) pp_TC)⟩)
  · intro h62
    refine wk_al0 r165_10 (wk_c1 r165_11 (wk_cv2 r165_12 kc_6_159 rfl (m7159_6 _ M0 1 x9_3 hP0 (by decide) (by decide) ex9_3 (by first | with_reducible assumption | omega) (by first | with_reducible assumption | omega)) (cqI ?_)))
    rintro v71 M63 ⟨hP64, hQ65, h72, h73, h67, h68, h69, h70⟩
    have hF66 : Fr fm_m7165_6 M0 M63 := hF0.tr hQ65 rfl
    obtain ⟨v74, e75⟩ : ∃ v, M63 6 4 = v := ⟨_, rfl⟩
    have h76 := (bf_6_4 hP64).1; rw [e75] at h76
    have h77 := (bf_6_4 hP64).2; rw [e75] at h77
    obtain ⟨v78, e79⟩ : ∃ v, M63 6 5 = v := ⟨_, rfl⟩
    have h80 := (bf_6_5 hP64).1; rw [e79] at h80
    have h81 := (bf_6_5 hP64).2; rw [e79] at h81
    refine wk_popi r165_15 (wk_c1 r165_16 ?_)
    subst hQ; exact wk_iret r165_17 (⟨rfl, _, rfl, hP64, hF66, by omega, by omega, by have := ((hQ65.at g_9_3 rfl).trans ex9_3); omega, by have := ((hQ65.at g_9_3 rfl).trans ex9_3); omega, by have := ((hQ65.at g_9_2 rfl).trans ex9_2); omega, by have := ((hQ65.at g_9_2 rfl).trans ex9_2); have := ((hQ65.at g_9_3 rfl).trans ex9_3); omega, by have := e75; omega, by have := e79; omega, by have := ((hQ65.at g_9_3 rfl).trans ex9_3); have := ((hQ65.at g_9_2 rfl).trans ex9_2); have := e75; have := e79; have := naE_c T x9_1 x6_3 x9_3; have := nmI_c T x9_1 x9_3; have := tt_lt T x9_1 x9_3; have := nx_lt (T := T) (n := x9_1) (s := x9_3) (by omega); omega, (TXP_sm (Sm.fr hQ65 rfl) pp_TX), (TCP_sm (Sm.fr hQ65 rfl) pp_TC)⟩)
def fm_m7174_6 : Nat := 3941061990809600
/-- IslandHall$Parser.takeSign -/
theorem m7174_6 {B : eB} (d : Nat) (M0 : Mm) (p1 : Int) (x9_1 : Int) (x9_3 : Int) (x9_2 : Int) (x6_4 : Int) (x6_5 : Int) (T : Int → Int) (hP0 : Pw M0) (l1 : 40 ≤ p1) (u1 : p1 ≤ 62) (ex9_1 : M0 9 1 = x9_1) (lx9_1 : 0 ≤ x9_1) (ux9_1 : x9_1 ≤ 500) (ex9_3 : M0 9 3 = x9_3) (lx9_3 : 0 ≤ x9_3) (ux9_3 : x9_3 ≤ 500) (ex9_2 : M0 9 2 = x9_2) (lx9_2 : 0 ≤ x9_2) (ux9_2 : x9_2 ≤ 500) (ex6_4 : M0 6 4 = x6_4) (lx6_4 : 0 ≤ x6_4) (ux6_4 : x6_4 ≤ 6) (ex6_5 : M0 6 5 = x6_5) (lx6_5 : (-1) ≤ x6_5) (ux6_5 : x6_5 ≤ 500) (rp0 : 0 ≤ x9_1 + (-1) * x9_2) (rp1 : 0 ≤ x9_2 + (-1) * x9_3) (rp2 : 0 ≤ x9_1 + (-1) * x9_3) (pp_TX : TXP T M0) (pp_TC : TCP T M0) : Ct B (d + 3) 174 [R 6, I p1] M0 (qI fun z M => Pw M ∧ Fr fm_m7174_6 M0 M ∧ 0 ≤ z ∧ z ≤ 1 ∧ 0 ≤ M 9 3 + (-1) * x9_3 ∧ 0 ≤ x9_1 + (-1) * (M 9 3) ∧ 0 ≤ x9_1 + (-1) * (M 9 2) ∧ 0 ≤ M 9 2 + (-1) * (M 9 3) ∧ 0 ≤ M 6 4 ∧ 0 ≤ M 6 5 + 1 ∧ (z = 1 → 0 ≤ M 6 4 + (-1) * x6_4) ∧ (z = 1 → 0 ≤ (-1) * (M 6 4) + x6_4) ∧ (z = 1 → 0 ≤ M 6 5 + (-1) * x6_5) ∧ (z = 1 → 0 ≤ (-1) * (M 6 5) + x6_5) ∧ ((z = 1 ∧ sgI T x9_1 x9_3 p1 = 1 ∧ M 9 3 = nx T x9_1 x9_3 ∧ M 6 4 = x6_4 ∧ M 6 5 = x6_5 ∧ x9_3 + 1 ≤ M 9 3) ∨ (z = 0 ∧ sgI T x9_1 x9_3 p1 = 0 ∧ M 9 3 = x9_3 ∧ M 6 4 = 1 ∧ M 6 5 = x9_3)) ∧ (TXP T M) ∧ (TCP T M)) := by
  refine ct_of (d := d + 2) (k := 0) (L := [some (R 6), some (I p1)]) rfl rfl rfl ?_
  have hF0 := Fr.rf fm_m7174_6 M0
  generalize hQ : (qI fun z M => Pw M ∧ Fr fm_m7174_6 M0 M ∧ 0 ≤ z ∧ z ≤ 1 ∧ 0 ≤ M 9 3 + (-1) * x9_3 ∧ 0 ≤ x9_1 + (-1) * (M 9 3) ∧ 0 ≤ x9_1 + (-1) * (M 9 2) ∧ 0 ≤ M 9 2 + (-1) * (M 9 3) ∧ 0 ≤ M 6 4 ∧ 0 ≤ M 6 5 + 1 ∧ (z = 1 → 0 ≤ M 6 4 + (-1) * x6_4) ∧ (z = 1 → 0 ≤ (-1) * (M 6 4) + x6_4) ∧ (z = 1 → 0 ≤ M 6 5 + (-1) * x6_5) ∧ (z = 1 → 0 ≤ (-1) * (M 6 5) + x6_5) ∧ ((z = 1 ∧ sgI T x9_1 x9_3 p1 = 1 ∧ M 9 3 = nx T x9_1 x9_3 ∧ M 6 4 = x6_4 ∧ M 6 5 = x6_5 ∧ x9_3 + 1 ≤ M 9 3) ∨ (z = 0 ∧ sgI T x9_1 x9_3 p1 = 0 ∧ M 9 3 = x9_3 ∧ M 6 4 = 1 ∧ M 6 5 = x9_3)) ∧ (TXP T M) ∧ (TCP T M)) = Q
  refine wk_al0 r174_0 (wk_getfr r174_1 fd_6_0 (br_6_0 hP0) (wk_il1 r174_4 (wk_cv2 r174_5 kc_9_238 rfl (m7238_9 _ M0 p1 x9_1 x9_3 T hP0 (by first | with_reducible assumption | omega) (by first | with_reducible assumption | omega) ex9_1 (by first | with_reducible assumption | omega) (by first | with_reducible assumption | omega) ex9_3 (by first | with_reducible assumption | omega) (by first | with_reducible assumption | omega) pp_TX pp_TC) (cqI ?_))))
  rintro v6 M1 ⟨hP2, hQ3, h7, h8, xh5⟩
  obtain rfl := Fr.same hQ3
  refine wk_ifne r174_8 ⟨by omega, by omega⟩ ?_ ?_
  · intro h9
    refine wk_al0 r174_17 (wk_getfr r174_18 fd_6_0 (br_6_0 hP0) (wk_cv1 r174_21 kc_9_241 rfl (m7241_9 _ M0 x9_1 x9_2 T hP0 ex9_1 (by first | with_reducible assumption | omega) (by first | with_reducible assumption | omega) ex9_2 (by first | with_reducible assumption | omega) (by first | with_reducible assumption | omega) (by omega) pp_TX) (cqV ?_)))
    rintro M10 ⟨hP11, hQ12, h14, h15, h16, h17, xh18, pr19, pr20⟩
    have hF13 : Fr fm_m7174_6 M0 M10 := hF0.tr hQ12 rfl
    obtain ⟨v21, e22⟩ : ∃ v, M10 9 3 = v := ⟨_, rfl⟩
    have h23 := (bf_9_3 hP11).1; rw [e22] at h23
    have h24 := (bf_9_3 hP11).2; rw [e22] at h24
    obtain ⟨v25, e26⟩ : ∃ v, M10 9 2 = v := ⟨_, rfl⟩
    have h27 := (bf_9_2 hP11).1; rw [e26] at h27
    have h28 := (bf_9_2 hP11).2; rw [e26] at h28
    have hn29 := nx_of pp_TC ex9_1 ex9_3 ex9_2 xh18
    refine wk_c1 r174_24 ?_
    subst hQ; exact wk_zret r174_25 (by decide) (⟨rfl, _, rfl, hP11, hF13, by omega, by omega, by have := e22; omega, by have := e22; omega, by have := e26; omega, by have := e26; have := e22; omega, by have := ((hQ12.at g_6_4 rfl).trans ex6_4); omega, by have := ((hQ12.at g_6_5 rfl).trans ex6_5); omega, by have := ((hQ12.at g_6_4 rfl).trans ex6_4); omega, by have := ((hQ12.at g_6_4 rfl).trans ex6_4); omega, by have := ((hQ12.at g_6_5 rfl).trans ex6_5); omega, by have := ((hQ12.at g_6_5 rfl).trans ex6_5); omega, by have := e22; have := e26; have := ((hQ12.at g_6_4 rfl).trans ex6_4); have := ((hQ12.at g_6_5 rfl).trans ex6_5); have := sgI_c T x9_1 x9_3 p1; have := tt_lt T x9_1 x9_3; have := nx_lt (T := T) (n := x9_1) (s := x9_3) (by omega); omega, pr19, pr20⟩)
  · intro h30
    refine wk_al0 r174_11 (wk_c1 r174_12 (wk_cv2 r174_13 kc_6_159 rfl (m7159_6 _ M0 1 x9_3 hP0 (by decide) (by decide) ex9_3 (by first | with_reducible assumption | omega) (by first | with_reducible assumption | omega)) (cqI ?_)))
    rintro v39 M31 ⟨hP32, hQ33, h40, h41, h35, h36, h37, h38⟩
    have hF34 : Fr fm_m7174_6 M0 M31 := hF0.tr hQ33 rfl
    obtain ⟨v42, e43⟩ : ∃ v, M31 6 4 = v := ⟨_, rfl⟩
    have h44 := (bf_6_4 hP32).1; rw [e43] at h44
    have h45 := (bf_6_4 hP32).2; rw [e43] at h45
    obtain ⟨v46, e47⟩ : ∃ v, M31 6 5 = v := ⟨_, rfl⟩
    have h48 := (bf_6_5 hP32).1; rw [e47] at h48
    have h49 := (bf_6_5 hP32).2; rw [e47] at h49
    subst hQ; exact wk_zret r174_16 ⟨by omega, by omega⟩ (⟨rfl, _, rfl, hP32, hF34, by omega, by omega, by have := ((hQ33.at g_9_3 rfl).trans ex9_3); omega, by have := ((hQ33.at g_9_3 rfl).trans ex9_3); omega, by have := ((hQ33.at g_9_2 rfl).trans ex9_2); omega, by have := ((hQ33.at g_9_2 rfl).trans ex9_2); have := ((hQ33.at g_9_3 rfl).trans ex9_3); omega, by have := e43; omega, by have := e47; omega, by omega, by omega, by omega, by omega, by have := ((hQ33.at g_9_3 rfl).trans ex9_3); have := ((hQ33.at g_9_2 rfl).trans ex9_2); have := e43; have := e47; have := sgI_c T x9_1 x9_3 p1; have := tt_lt T x9_1 x9_3; have := nx_lt (T := T) (n := x9_1) (s := x9_3) (by omega); omega, (TXP_sm (Sm.fr hQ33 rfl) pp_TX), (TCP_sm (Sm.fr hQ33 rfl) pp_TC)⟩)
def fm_m7158_6v6 : Nat := 412316860416
/-- IslandHall$Parser.expr -/
theorem m7158_6v6 {B : eB} (d : Nat) (M0 : Mm) (p1 : Int) (x9_1 : Int) (x9_3 : Int) (x9_2 : Int) (x6_4 : Int) (x6_5 : Int) (x6_3 : Int) (T : Int → Int) (c0 : Cg) (hP0 : Pw M0) (l1 : 6 ≤ p1) (u1 : p1 ≤ 6) (ex9_1 : M0 9 1 = x9_1) (lx9_1 : 0 ≤ x9_1) (ux9_1 : x9_1 ≤ 500) (ex9_3 : M0 9 3 = x9_3) (lx9_3 : 0 ≤ x9_3) (ux9_3 : x9_3 ≤ 500) (ex9_2 : M0 9 2 = x9_2) (lx9_2 : 0 ≤ x9_2) (ux9_2 : x9_2 ≤ 500) (ex6_4 : M0 6 4 = x6_4) (lx6_4 : 0 ≤ x6_4) (ux6_4 : x6_4 ≤ 6) (ex6_5 : M0 6 5 = x6_5) (lx6_5 : (-1) ≤ x6_5) (ux6_5 : x6_5 ≤ 500) (ex6_3 : M0 6 3 = x6_3) (lx6_3 : (-1) ≤ x6_3) (ux6_3 : x6_3 ≤ 7) (rp0 : 0 ≤ x9_1 + (-1) * x9_2) (rp1 : 0 ≤ x9_2 + (-1) * x9_3) (rp2 : 0 ≤ x9_1 + (-1) * x9_3) (xp0 : Rch T x9_1 x6_3 c0 (0, p1, x9_3, 0)) (pp_TX : TXP T M0) (pp_TC : TCP T M0) : Ct B (d + 4) 158 [R 6, I p1] M0 (qI fun z M => Pw M ∧ Fr fm_m7158_6v6 M0 M ∧ 0 ≤ z ∧ z ≤ 0 ∧ 0 ≤ M 9 3 + (-1) * x9_3 ∧ 0 ≤ x9_1 + (-1) * (M 9 3) ∧ 0 ≤ x9_1 + (-1) * (M 9 2) ∧ 0 ≤ M 9 2 + (-1) * (M 9 3) ∧ 0 ≤ M 6 4 ∧ 0 ≤ M 6 5 + 1 ∧ (z = 1 → 0 ≤ M 6 4 + (-1) * x6_4) ∧ (z = 1 → 0 ≤ (-1) * (M 6 4) + x6_4) ∧ (z = 1 → 0 ≤ M 6 5 + (-1) * x6_5) ∧ (z = 1 → 0 ≤ (-1) * (M 6 5) + x6_5) ∧ ((z = 1 ∧ Rch T x9_1 x6_3 c0 (2, p1 + 1, M 9 3, 0) ∧ kw T x9_1 (M 9 3) ≠ 12 ∧ kw T x9_1 (M 9 3) ≠ 13) ∨ (z = 0 ∧ Rch T x9_1 x6_3 c0 (3, 0, M 6 5, M 6 4))) ∧ (TXP T M) ∧ (TCP T M)) := by
  refine ct_of (d := d + 3) (k := 1) (L := [some (R 6), some (I p1), none]) rfl rfl rfl ?_
  have hF0 := Fr.rf fm_m7158_6v6 M0
  generalize hQ : (qI fun z M => Pw M ∧ Fr fm_m7158_6v6 M0 M ∧ 0 ≤ z ∧ z ≤ 0 ∧ 0 ≤ M 9 3 + (-1) * x9_3 ∧ 0 ≤ x9_1 + (-1) * (M 9 3) ∧ 0 ≤ x9_1 + (-1) * (M 9 2) ∧ 0 ≤ M 9 2 + (-1) * (M 9 3) ∧ 0 ≤ M 6 4 ∧ 0 ≤ M 6 5 + 1 ∧ (z = 1 → 0 ≤ M 6 4 + (-1) * x6_4) ∧ (z = 1 → 0 ≤ (-1) * (M 6 4) + x6_4) ∧ (z = 1 → 0 ≤ M 6 5 + (-1) * x6_5) ∧ (z = 1 → 0 ≤ (-1) * (M 6 5) + x6_5) ∧ ((z = 1 ∧ Rch T x9_1 x6_3 c0 (2, p1 + 1, M 9 3, 0) ∧ kw T x9_1 (M 9 3) ≠ 12 ∧ kw T x9_1 (M 9 3) ≠ 13) ∨ (z = 0 ∧ Rch T x9_1 x6_3 c0 (3, 0, M 6 5, M 6 4))) ∧ (TXP T M) ∧ (TCP T M)) = Q
  refine wk_al0 r158_0 (wk_cv1 r158_1 kc_6_155 rfl (m7155_6 _ M0 x9_1 x9_3 T hP0 ex9_1 (by first | with_reducible assumption | omega) (by first | with_reducible assumption | omega) ex9_3 (by first | with_reducible assumption | omega) (by first | with_reducible assumption | omega) pp_TX pp_TC) (cqI ?_))
  rintro v6 M1 ⟨hP2, hQ3, h7, h8, xh5⟩
  obtain rfl := Fr.same hQ3
  refine wk_ifne r158_4 ⟨by omega, by omega⟩ ?_ ?_
  · intro h9
    refine wk_il1 r158_13 (wk_c2 r158_14 ?_)
    refine wk_iclt r158_16 ⟨by omega, by omega⟩ (by decide) ?_ ?_
    · intro h10
      exfalso
      omega
    · intro h11
      refine wk_al0 r158_19 (wk_c1 r158_20 (wk_cv2 r158_21 kc_6_159 rfl (m7159_6 _ M0 2 x9_3 hP0 (by decide) (by decide) ex9_3 (by first | with_reducible assumption | omega) (by first | with_reducible assumption | omega)) (cqI ?_)))
      rintro v20 M12 ⟨hP13, hQ14, h21, h22, h16, h17, h18, h19⟩
      have hF15 : Fr fm_m7158_6v6 M0 M12 := hF0.tr hQ14 rfl
      obtain ⟨v23, e24⟩ : ∃ v, M12 6 4 = v := ⟨_, rfl⟩
      have h25 := (bf_6_4 hP13).1; rw [e24] at h25
      have h26 := (bf_6_4 hP13).2; rw [e24] at h26
      obtain ⟨v27, e28⟩ : ∃ v, M12 6 5 = v := ⟨_, rfl⟩
      have h29 := (bf_6_5 hP13).1; rw [e28] at h29
      have h30 := (bf_6_5 hP13).2; rw [e28] at h30
      subst hQ; exact wk_zret r158_24 ⟨by omega, by omega⟩ (⟨rfl, _, rfl, hP13, hF15, by omega, by omega, by have := ((hQ14.at g_9_3 rfl).trans ex9_3); omega, by have := ((hQ14.at g_9_3 rfl).trans ex9_3); omega, by have := ((hQ14.at g_9_2 rfl).trans ex9_2); omega, by have := ((hQ14.at g_9_2 rfl).trans ex9_2); have := ((hQ14.at g_9_3 rfl).trans ex9_3); omega, by have := e24; omega, by have := e28; omega, by omega, by omega, by omega, by omega, Or.inr ⟨by omega, by rw [e28, e24]; exact E_6 xp0 (by omega) (by omega) (by omega) (by omega)⟩, (TXP_sm (Sm.fr hQ14 rfl) pp_TX), (TCP_sm (Sm.fr hQ14 rfl) pp_TC)⟩)
  · intro h31
    refine wk_al0 r158_7 (wk_c1 r158_8 (wk_cv2 r158_9 kc_6_159 rfl (m7159_6 _ M0 1 x9_3 hP0 (by decide) (by decide) ex9_3 (by first | with_reducible assumption | omega) (by first | with_reducible assumption | omega)) (cqI ?_)))
    rintro v40 M32 ⟨hP33, hQ34, h41, h42, h36, h37, h38, h39⟩
    have hF35 : Fr fm_m7158_6v6 M0 M32 := hF0.tr hQ34 rfl
    obtain ⟨v43, e44⟩ : ∃ v, M32 6 4 = v := ⟨_, rfl⟩
    have h45 := (bf_6_4 hP33).1; rw [e44] at h45
    have h46 := (bf_6_4 hP33).2; rw [e44] at h46
    obtain ⟨v47, e48⟩ : ∃ v, M32 6 5 = v := ⟨_, rfl⟩
    have h49 := (bf_6_5 hP33).1; rw [e48] at h49
    have h50 := (bf_6_5 hP33).2; rw [e48] at h50
    subst hQ; exact wk_zret r158_12 ⟨by omega, by omega⟩ (⟨rfl, _, rfl, hP33, hF35, by omega, by omega, by have := ((hQ34.at g_9_3 rfl).trans ex9_3); omega, by have := ((hQ34.at g_9_3 rfl).trans ex9_3); omega, by have := ((hQ34.at g_9_2 rfl).trans ex9_2); omega, by have := ((hQ34.at g_9_2 rfl).trans ex9_2); have := ((hQ34.at g_9_3 rfl).trans ex9_3); omega, by have := e44; omega, by have := e48; omega, by omega, by omega, by omega, by omega, Or.inr ⟨by omega, by rw [e48, e44]; exact E_n xp0 (by omega) (by omega) (by omega)⟩, (TXP_sm (Sm.fr hQ34 rfl) pp_TX), (TCP_sm (Sm.fr hQ34 rfl) pp_TC)⟩)
