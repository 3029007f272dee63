/-! ===== written by program (wip/layer4) ===== -/
def fm_m7152_6v3 : Nat := 3941070043873280
/-- IslandHall$Parser.aboutSomeone -/
theorem m7152_6v3 {B : eB} (d : Nat) (M0 : Mm) (p1 : Int) (x9_1 : Int) (x9_3 : Int) (x9_2 : Int) (x6_4 : Int) (x6_5 : Int) (x6_3 : Int) (T : Int → Int) (c0 : Cg) (gk : Int) (hP0 : Pw M0) (l1 : 3 ≤ p1) (u1 : p1 ≤ 3) (ex9_1 : M0 9 1 = x9_1) (lx9_1 : 0 ≤ x9_1) (ux9_1 : x9_1 ≤ 500) (ex9_3 : M0 9 3 = x9_3) (lx9_3 : 0 ≤ x9_3) (ux9_3 : x9_3 ≤ 500) (ex9_2 : M0 9 2 = x9_2) (lx9_2 : 0 ≤ x9_2) (ux9_2 : x9_2 ≤ 500) (ex6_4 : M0 6 4 = x6_4) (lx6_4 : 0 ≤ x6_4) (ux6_4 : x6_4 ≤ 6) (ex6_5 : M0 6 5 = x6_5) (lx6_5 : (-1) ≤ x6_5) (ux6_5 : x6_5 ≤ 500) (ex6_3 : M0 6 3 = x6_3) (lx6_3 : (-1) ≤ x6_3) (ux6_3 : x6_3 ≤ 7) (rp0 : 0 ≤ x9_1 + (-1) * x9_2) (rp1 : 0 ≤ x9_2 + (-1) * x9_3) (rp2 : 0 ≤ x9_1 + (-1) * x9_3) (xp0 : Rch T x9_1 x6_3 c0 (1, p1 + 1, x9_3, gk)) (xp1 : nmI T x9_1 x9_3 = 1) (pp_TX : TXP T M0) (pp_TC : TCP T M0) : Ct B (d + 18) 152 [R 6, I p1] M0 (qI fun z M => Pw M ∧ Fr fm_m7152_6v3 M0 M ∧ 0 ≤ z ∧ z ≤ 1 ∧ 0 ≤ M 9 3 + (-1) * x9_3 ∧ 0 ≤ x9_1 + (-1) * (M 9 3) ∧ 0 ≤ x9_1 + (-1) * (M 9 2) ∧ 0 ≤ M 9 2 + (-1) * (M 9 3) ∧ 0 ≤ M 6 4 ∧ 0 ≤ M 6 5 + 1 ∧ (z = 1 → 0 ≤ M 6 4 + (-1) * x6_4) ∧ (z = 1 → 0 ≤ (-1) * (M 6 4) + x6_4) ∧ (z = 1 → 0 ≤ M 6 5 + (-1) * x6_5) ∧ (z = 1 → 0 ≤ (-1) * (M 6 5) + x6_5) ∧ ((z = 1 ∧ Rch T x9_1 x6_3 c0 (2, p1 + 1, M 9 3, 0)) ∨ (z = 0 ∧ Rch T x9_1 x6_3 c0 (3, 0, M 6 5, M 6 4))) ∧ (TXP T M) ∧ (TCP T M)) := by
  refine ct_of (d := d + 17) (k := 2) (L := [some (R 6), some (I p1), none, none]) rfl rfl rfl ?_
  have hF0 := Fr.rf fm_m7152_6v3 M0
  generalize hQ : (qI fun z M => Pw M ∧ Fr fm_m7152_6v3 M0 M ∧ 0 ≤ z ∧ z ≤ 1 ∧ 0 ≤ M 9 3 + (-1) * x9_3 ∧ 0 ≤ x9_1 + (-1) * (M 9 3) ∧ 0 ≤ x9_1 + (-1) * (M 9 2) ∧ 0 ≤ M 9 2 + (-1) * (M 9 3) ∧ 0 ≤ M 6 4 ∧ 0 ≤ M 6 5 + 1 ∧ (z = 1 → 0 ≤ M 6 4 + (-1) * x6_4) ∧ (z = 1 → 0 ≤ (-1) * (M 6 4) + x6_4) ∧ (z = 1 → 0 ≤ M 6 5 + (-1) * x6_5) ∧ (z = 1 → 0 ≤ (-1) * (M 6 5) + x6_5) ∧ ((z = 1 ∧ Rch T x9_1 x6_3 c0 (2, p1 + 1, M 9 3, 0)) ∨ (z = 0 ∧ Rch T x9_1 x6_3 c0 (3, 0, M 6 5, M 6 4))) ∧ (TXP T M) ∧ (TCP T M)) = Q
  refine wk_al0 r152_0 (wk_cv1 r152_1 kc_6_165 rfl (m7165_6 _ M0 x9_1 x9_3 x9_2 x6_4 x6_5 x6_3 T hP0 ex9_1 (by first | with_reducible assumption | omega) (by first | with_reducible assumption | omega) ex9_3 (by first | with_reducible assumption | omega) (by first | with_reducible assumption | omega) ex9_2 (by first | with_reducible assumption | omega) (by first | with_reducible assumption | omega) ex6_4 (by first | with_reducible assumption | omega) (by first | with_reducible assumption | omega) ex6_5 (by first | with_reducible assumption | omega) (by first | with_reducible assumption | omega) ex6_3 (by first | with_reducible assumption | omega) (by first | with_reducible assumption | omega) (by omega) (by omega) (by omega) pp_TX pp_TC) (cqI ?_))
  rintro v14 M1 ⟨hP2, hQ3, h15, h16, h5, h6, h7, h8, h9, h10, xh11, pr12, pr13⟩
  have hF4 : Fr fm_m7152_6v3 M0 M1 := hF0.tr hQ3 rfl
  obtain ⟨v17, e18⟩ : ∃ v, M1 9 3 = v := ⟨_, rfl⟩
  have h19 := (bf_9_3 hP2).1; rw [e18] at h19
  have h20 := (bf_9_3 hP2).2; rw [e18] at h20
  obtain ⟨v21, e22⟩ : ∃ v, M1 9 2 = v := ⟨_, rfl⟩
  have h23 := (bf_9_2 hP2).1; rw [e22] at h23
  have h24 := (bf_9_2 hP2).2; rw [e22] at h24
  obtain ⟨v25, e26⟩ : ∃ v, M1 6 4 = v := ⟨_, rfl⟩
  have h27 := (bf_6_4 hP2).1; rw [e26] at h27
  have h28 := (bf_6_4 hP2).2; rw [e26] at h28
  obtain ⟨v29, e30⟩ : ∃ v, M1 6 5 = v := ⟨_, rfl⟩
  have h31 := (bf_6_5 hP2).1; rw [e30] at h31
  have h32 := (bf_6_5 hP2).2; rw [e30] at h32
  refine wk_is2 r152_4 rfl (wk_il2 r152_5 (wk_c1 r152_6 ?_))
  refine wk_icne r152_7 ⟨by omega, by omega⟩ (by decide) ?_ ?_
  · intro h33
    have r1 : Rch T x9_1 x6_3 c0 (stN T x9_1 x6_3 (p1 + 1) v17) := N1 xp0 xp1 (by omega) (by omega)
    refine wk_al0 r152_12 (wk_c8 r152_13 (wk_cv2 r152_15 kc_6_175 rfl (m7175_6 _ M1 4111 x9_1 v17 v21 T hP2 (by decide) ((hQ3.at g_9_1 rfl).trans ex9_1) (by first | with_reducible assumption | omega) (by first | with_reducible assumption | omega) e18 (by first | with_reducible assumption | omega) (by first | with_reducible assumption | omega) e22 (by first | with_reducible assumption | omega) (by first | with_reducible assumption | omega) (by omega) (by omega) (by omega) (by first | assumption | omega | (unfold stepok; omega)) pr12 pr13) (cqI ?_)))
    rintro v46 M34 ⟨hP35, hQ36, h47, h48, h38, h39, h40, h41, h42, xh43, pr44, pr45⟩
    have hF37 : Fr fm_m7152_6v3 M0 M34 := hF4.tr hQ36 rfl
    obtain ⟨v49, e50⟩ : ∃ v, M34 9 3 = v := ⟨_, rfl⟩
    have h51 := (bf_9_3 hP35).1; rw [e50] at h51
    have h52 := (bf_9_3 hP35).2; rw [e50] at h52
    obtain ⟨v53, e54⟩ : ∃ v, M34 9 2 = v := ⟨_, rfl⟩
    have h55 := (bf_9_2 hP35).1; rw [e54] at h55
    have h56 := (bf_9_2 hP35).2; rw [e54] at h56
    rw [show wix 4111 = 15 from rfl] at xh43
    refine wk_ifeq r152_18 ⟨by omega, by omega⟩ ?_ ?_
    · intro h57
      obtain rfl : v17 = v49 := by omega
      obtain rfl : v21 = v53 := by omega
      refine wk_al0 r152_35 (wk_c8 r152_36 (wk_cv2 r152_38 kc_6_175 rfl (m7175_6 _ M34 4112 x9_1 v17 v21 T hP35 (by decide) ((hQ36.at g_9_1 rfl).trans ((hQ3.at g_9_1 rfl).trans ex9_1)) (by first | with_reducible assumption | omega) (by first | with_reducible assumption | omega) e50 (by first | with_reducible assumption | omega) (by first | with_reducible assumption | omega) e54 (by first | with_reducible assumption | omega) (by first | with_reducible assumption | omega) (by omega) (by omega) (by omega) (by first | assumption | omega | (unfold stepok; omega)) pr44 pr45) (cqI ?_)))
      rintro v70 M58 ⟨hP59, hQ60, h71, h72, h62, h63, h64, h65, h66, xh67, pr68, pr69⟩
      have hF61 : Fr fm_m7152_6v3 M0 M58 := hF37.tr hQ60 rfl
      obtain ⟨v73, e74⟩ : ∃ v, M58 9 3 = v := ⟨_, rfl⟩
      have h75 := (bf_9_3 hP59).1; rw [e74] at h75
      have h76 := (bf_9_3 hP59).2; rw [e74] at h76
      obtain ⟨v77, e78⟩ : ∃ v, M58 9 2 = v := ⟨_, rfl⟩
      have h79 := (bf_9_2 hP59).1; rw [e78] at h79
      have h80 := (bf_9_2 hP59).2; rw [e78] at h80
      rw [show wix 4112 = 16 from rfl] at xh67
      refine wk_ifeq r152_41 ⟨by omega, by omega⟩ ?_ ?_
      · intro h81
        obtain rfl : v17 = v73 := by omega
        obtain rfl : v21 = v77 := by omega
        refine wk_al0 r152_73 (wk_c8 r152_74 (wk_cv2 r152_76 kc_6_175 rfl (m7175_6 _ M58 4113 x9_1 v17 v21 T hP59 (by decide) ((hQ60.at g_9_1 rfl).trans ((hQ36.at g_9_1 rfl).trans ((hQ3.at g_9_1 rfl).trans ex9_1))) (by first | with_reducible assumption | omega) (by first | with_reducible assumption | omega) e74 (by first | with_reducible assumption | omega) (by first | with_reducible assumption | omega) e78 (by first | with_reducible assumption | omega) (by first | with_reducible assumption | omega) (by omega) (by omega) (by omega) (by first | assumption | omega | (unfold stepok; omega)) pr68 pr69) (cqI ?_)))
        rintro v94 M82 ⟨hP83, hQ84, h95, h96, h86, h87, h88, h89, h90, xh91, pr92, pr93⟩
        have hF85 : Fr fm_m7152_6v3 M0 M82 := hF61.tr hQ84 rfl
        obtain ⟨v97, e98⟩ : ∃ v, M82 9 3 = v := ⟨_, rfl⟩
        have h99 := (bf_9_3 hP83).1; rw [e98] at h99
        have h100 := (bf_9_3 hP83).2; rw [e98] at h100
        obtain ⟨v101, e102⟩ : ∃ v, M82 9 2 = v := ⟨_, rfl⟩
        have h103 := (bf_9_2 hP83).1; rw [e102] at h103
        have h104 := (bf_9_2 hP83).2; rw [e102] at h104
        rw [show wix 4113 = 17 from rfl] at xh91
        refine wk_ifne r152_79 ⟨by omega, by omega⟩ ?_ ?_
        · intro h105
          refine wk_al0 r152_88 (wk_il1 r152_89 (wk_cv2 r152_90 kc_6_168 rfl (m7168_6v3 _ M82 p1 x9_1 v97 v101 v25 v29 x6_3 T c0 hP83 (by first | with_reducible assumption | omega) (by first | with_reducible assumption | omega) ((hQ84.at g_9_1 rfl).trans ((hQ60.at g_9_1 rfl).trans ((hQ36.at g_9_1 rfl).trans ((hQ3.at g_9_1 rfl).trans ex9_1)))) (by first | with_reducible assumption | omega) (by first | with_reducible assumption | omega) e98 (by first | with_reducible assumption | omega) (by first | with_reducible assumption | omega) e102 (by first | with_reducible assumption | omega) (by first | with_reducible assumption | omega) ((hQ84.at g_6_4 rfl).trans ((hQ60.at g_6_4 rfl).trans ((hQ36.at g_6_4 rfl).trans e26))) (by first | with_reducible assumption | omega) (by first | with_reducible assumption | omega) ((hQ84.at g_6_5 rfl).trans ((hQ60.at g_6_5 rfl).trans ((hQ36.at g_6_5 rfl).trans e30))) (by first | with_reducible assumption | omega) (by first | with_reducible assumption | omega) ((hQ84.at g_6_3 rfl).trans ((hQ60.at g_6_3 rfl).trans ((hQ36.at g_6_3 rfl).trans ((hQ3.at g_6_3 rfl).trans ex6_3)))) (by first | with_reducible assumption | omega) (by first | with_reducible assumption | omega) (by omega) (by omega) (by omega) (N_s r1 (by omega) (by omega)) pr92 pr93) (cqI ?_)))
          rintro v123 M106 ⟨hP107, hQ108, h124, h125, h110, h111, h112, h113, h114, h115, h116, h117, h118, h119, xh120, pr121, pr122⟩
          have hF109 : Fr fm_m7152_6v3 M0 M106 := hF85.tr hQ108 rfl
          obtain ⟨v126, e127⟩ : ∃ v, M106 9 3 = v := ⟨_, rfl⟩
          have h128 := (bf_9_3 hP107).1; rw [e127] at h128
          have h129 := (bf_9_3 hP107).2; rw [e127] at h129
          obtain ⟨v130, e131⟩ : ∃ v, M106 9 2 = v := ⟨_, rfl⟩
          have h132 := (bf_9_2 hP107).1; rw [e131] at h132
          have h133 := (bf_9_2 hP107).2; rw [e131] at h133
          obtain ⟨v134, e135⟩ : ∃ v, M106 6 4 = v := ⟨_, rfl⟩
          have h136 := (bf_6_4 hP107).1; rw [e135] at h136
          have h137 := (bf_6_4 hP107).2; rw [e135] at h137
          obtain ⟨v138, e139⟩ : ∃ v, M106 6 5 = v := ⟨_, rfl⟩
          have h140 := (bf_6_5 hP107).1; rw [e139] at h140
          have h141 := (bf_6_5 hP107).2; rw [e139] at h141
          refine wk_ifne r152_93 ⟨by omega, by omega⟩ ?_ ?_
          · intro h142
            refine wk_al0 r152_98 ?_
            obtain ⟨v143, e144⟩ : ∃ v, M106 6 2 = v := ⟨_, rfl⟩
            have hC145 : isC v143 := by have := pcE hP107; rw [e144] at this; exact this
            refine wk_getfr r152_99 fd_6_2 e144 (wk_il2 r152_102 (wk_cv2 r152_103 (kcC_139 hC145) rfl (m7139 _ M106 v143 v14 hP107 hC145 (by first | with_reducible assumption | omega) (by first | with_reducible assumption | omega)) (cqV ?_)))
            rintro M146 ⟨hP147, hQ148⟩
            have hF149 : Fr fm_m7152_6v3 M0 M146 := hF109.tr hQ148 rfl
            refine wk_c1 r152_106 ?_
            subst hQ; exact wk_zret r152_107 (by decide) (⟨rfl, _, rfl, hP147, hF149, by omega, by omega, by have := ((hQ148.at g_9_3 rfl).trans e127); omega, by have := ((hQ148.at g_9_3 rfl).trans e127); omega, by have := ((hQ148.at g_9_2 rfl).trans e131); omega, by have := ((hQ148.at g_9_2 rfl).trans e131); have := ((hQ148.at g_9_3 rfl).trans e127); omega, by have := ((hQ148.at g_6_4 rfl).trans e135); omega, by have := ((hQ148.at g_6_5 rfl).trans e139); omega, by have := ((hQ148.at g_6_4 rfl).trans e135); omega, by have := ((hQ148.at g_6_4 rfl).trans e135); omega, by have := ((hQ148.at g_6_5 rfl).trans e139); omega, by have := ((hQ148.at g_6_5 rfl).trans e139); omega, Or.inl ⟨by omega, by rw [((hQ148.at g_9_3 rfl).trans e127)]; exact X_k (or_l xh120 (by omega)) (by omega)⟩, (TXP_sm (Sm.fr hQ148 rfl) pr121), (TCP_sm (Sm.fr hQ148 rfl) pr122)⟩)
          · intro h150
            refine wk_c1 r152_96 ?_
            subst hQ; exact wk_zret r152_97 (by decide) (⟨rfl, _, rfl, hP107, hF109, by omega, by omega, by have := e127; omega, by have := e127; omega, by have := e131; omega, by have := e131; have := e127; omega, by have := e135; omega, by have := e139; omega, by omega, by omega, by omega, by omega, Or.inr ⟨by omega, by rw [e139, e135]; exact F_k (or_r xh120 (by omega)) (by omega) (by omega)⟩, pr121, pr122⟩)
        · intro h151
          obtain rfl : v17 = v97 := by omega
          obtain rfl : v21 = v101 := by omega
          refine wk_al0 r152_82 (wk_c1 r152_83 (wk_cv2 r152_84 kc_6_159 rfl (m7159_6 _ M82 1 v17 hP83 (by decide) (by decide) e98 (by first | with_reducible assumption | omega) (by first | with_reducible assumption | omega)) (cqI ?_)))
          rintro v160 M152 ⟨hP153, hQ154, h161, h162, h156, h157, h158, h159⟩
          have hF155 : Fr fm_m7152_6v3 M0 M152 := hF85.tr hQ154 rfl
          obtain ⟨v163, e164⟩ : ∃ v, M152 6 4 = v := ⟨_, rfl⟩
          have h165 := (bf_6_4 hP153).1; rw [e164] at h165
          have h166 := (bf_6_4 hP153).2; rw [e164] at h166
          obtain ⟨v167, e168⟩ : ∃ v, M152 6 5 = v := ⟨_, rfl⟩
          have h169 := (bf_6_5 hP153).1; rw [e168] at h169
          have h170 := (bf_6_5 hP153).2; rw [e168] at h170
          subst hQ; exact wk_zret r152_87 ⟨by omega, by omega⟩ (⟨rfl, _, rfl, hP153, hF155, by omega, by omega, by have := ((hQ154.at g_9_3 rfl).trans e98); omega, by have := ((hQ154.at g_9_3 rfl).trans e98); omega, by have := ((hQ154.at g_9_2 rfl).trans e102); omega, by have := ((hQ154.at g_9_2 rfl).trans e102); have := ((hQ154.at g_9_3 rfl).trans e98); omega, by have := e164; omega, by have := e168; omega, by omega, by omega, by omega, by omega, Or.inr ⟨by omega, by rw [e168, e164]; exact N_n r1 (by omega) (by omega) (by omega) (by omega) (by omega)⟩, (TXP_sm (Sm.fr hQ154 rfl) pr92), (TCP_sm (Sm.fr hQ154 rfl) pr93)⟩)
      · intro h171
        refine wk_al0 r152_44 (wk_cv1 r152_45 kc_6_165 rfl (m7165_6 _ M58 x9_1 v73 v77 v25 v29 x6_3 T hP59 ((hQ60.at g_9_1 rfl).trans ((hQ36.at g_9_1 rfl).trans ((hQ3.at g_9_1 rfl).trans ex9_1))) (by first | with_reducible assumption | omega) (by first | with_reducible assumption | omega) e74 (by first | with_reducible assumption | omega) (by first | with_reducible assumption | omega) e78 (by first | with_reducible assumption | omega) (by first | with_reducible assumption | omega) ((hQ60.at g_6_4 rfl).trans ((hQ36.at g_6_4 rfl).trans e26)) (by first | with_reducible assumption | omega) (by first | with_reducible assumption | omega) ((hQ60.at g_6_5 rfl).trans ((hQ36.at g_6_5 rfl).trans e30)) (by first | with_reducible assumption | omega) (by first | with_reducible assumption | omega) ((hQ60.at g_6_3 rfl).trans ((hQ36.at g_6_3 rfl).trans ((hQ3.at g_6_3 rfl).trans ex6_3))) (by first | with_reducible assumption | omega) (by first | with_reducible assumption | omega) (by omega) (by omega) (by omega) pr68 pr69) (cqI ?_))
        rintro v185 M172 ⟨hP173, hQ174, h186, h187, h176, h177, h178, h179, h180, h181, xh182, pr183, pr184⟩
        have hF175 : Fr fm_m7152_6v3 M0 M172 := hF61.tr hQ174 rfl
        obtain ⟨v188, e189⟩ : ∃ v, M172 9 3 = v := ⟨_, rfl⟩
        have h190 := (bf_9_3 hP173).1; rw [e189] at h190
        have h191 := (bf_9_3 hP173).2; rw [e189] at h191
        obtain ⟨v192, e193⟩ : ∃ v, M172 9 2 = v := ⟨_, rfl⟩
        have h194 := (bf_9_2 hP173).1; rw [e193] at h194
        have h195 := (bf_9_2 hP173).2; rw [e193] at h195
        obtain ⟨v196, e197⟩ : ∃ v, M172 6 4 = v := ⟨_, rfl⟩
        have h198 := (bf_6_4 hP173).1; rw [e197] at h198
        have h199 := (bf_6_4 hP173).2; rw [e197] at h199
        obtain ⟨v200, e201⟩ : ∃ v, M172 6 5 = v := ⟨_, rfl⟩
        have h202 := (bf_6_5 hP173).1; rw [e201] at h202
        have h203 := (bf_6_5 hP173).2; rw [e201] at h203
        refine wk_is3 r152_48 rfl (wk_il3 r152_49 (wk_c1 r152_50 ?_))
        refine wk_iceq r152_51 ⟨by omega, by omega⟩ (by decide) ?_ ?_
        · intro h204
          refine wk_c1 r152_71 ?_
          subst hQ; exact wk_zret r152_72 (by decide) (⟨rfl, _, rfl, hP173, hF175, by omega, by omega, by have := e189; omega, by have := e189; omega, by have := e193; omega, by have := e193; have := e189; omega, by have := e197; omega, by have := e201; omega, by omega, by omega, by omega, by omega, Or.inr ⟨by omega, by rw [e201, e197]; exact N_an (v2 := v73) r1 (by omega) (by omega) (by omega) (by omega) (by omega)⟩, pr183, pr184⟩)
        · intro h205
          refine wk_al0 r152_54 (wk_c1 r152_55 (wk_il2 r152_56 (wk_c1 r152_57 (wk_ishlc r152_58 (by decide) pwl_3 (wk_il3 r152_59 (wk_iord2 3 8 r152_60 (by decide) ⟨by omega, by omega⟩ ⟨by omega, by omega, by omega⟩ (wk_cv3 r152_61 kc_6_172 rfl (m7172_6 _ M172 5 ((v14 * 8) + v185) hP173 (by decide) (by decide) (by first | with_reducible assumption | omega) (by first | with_reducible assumption | omega) (by first | assumption | omega | (unfold stepok; omega))) (cqI ?_))))))))
          rintro v210 M206 ⟨hP207, hQ208, h211, h212⟩
          have hF209 : Fr fm_m7152_6v3 M0 M206 := hF175.tr hQ208 rfl
          refine wk_ifeq r152_64 ⟨by omega, by omega⟩ ?_ ?_
          · intro h213
            exfalso
            omega
          · intro h214
            refine wk_c1 r152_67 (wk_goto r152_68 ?_)
            subst hQ; exact wk_zret r152_72 (by decide) (⟨rfl, _, rfl, hP207, hF209, by omega, by omega, by have := ((hQ208.at g_9_3 rfl).trans e189); omega, by have := ((hQ208.at g_9_3 rfl).trans e189); omega, by have := ((hQ208.at g_9_2 rfl).trans e193); omega, by have := ((hQ208.at g_9_2 rfl).trans e193); have := ((hQ208.at g_9_3 rfl).trans e189); omega, by have := ((hQ208.at g_6_4 rfl).trans e197); omega, by have := ((hQ208.at g_6_5 rfl).trans e201); omega, by have := ((hQ208.at g_6_4 rfl).trans e197); omega, by have := ((hQ208.at g_6_4 rfl).trans e197); omega, by have := ((hQ208.at g_6_5 rfl).trans e201); omega, by have := ((hQ208.at g_6_5 rfl).trans e201); omega, Or.inl ⟨by omega, by rw [((hQ208.at g_9_3 rfl).trans e189)]; exact N_a (v2 := v73) r1 (by omega) (by omega) (by omega) (by omega)⟩, (TXP_sm (Sm.fr hQ208 rfl) pr183), (TCP_sm (Sm.fr hQ208 rfl) pr184)⟩)
    · intro h215
      refine wk_al0 r152_21 (wk_c1 r152_22 (wk_il2 r152_23 (wk_c1 r152_24 (wk_imul r152_25 (wk_iadd r152_26 (wk_al0 r152_27 (wk_cv1 r152_28 kc_6_173 rfl (m7173_6 _ M34 x9_1 v49 v53 v25 v29 T hP35 ((hQ36.at g_9_1 rfl).trans ((hQ3.at g_9_1 rfl).trans ex9_1)) (by first | with_reducible assumption | omega) (by first | with_reducible assumption | omega) e50 (by first | with_reducible assumption | omega) (by first | with_reducible assumption | omega) e54 (by first | with_reducible assumption | omega) (by first | with_reducible assumption | omega) ((hQ36.at g_6_4 rfl).trans e26) (by first | with_reducible assumption | omega) (by first | with_reducible assumption | omega) ((hQ36.at g_6_5 rfl).trans e30) (by first | with_reducible assumption | omega) (by first | with_reducible assumption | omega) (by omega) (by omega) (by omega) pr44 pr45) (cqI ?_))))))))
      rintro v229 M216 ⟨hP217, hQ218, h230, h231, h220, h221, h222, h223, h224, h225, xh226, pr227, pr228⟩
      have hF219 : Fr fm_m7152_6v3 M0 M216 := hF37.tr hQ218 rfl
      obtain ⟨v232, e233⟩ : ∃ v, M216 9 3 = v := ⟨_, rfl⟩
      have h234 := (bf_9_3 hP217).1; rw [e233] at h234
      have h235 := (bf_9_3 hP217).2; rw [e233] at h235
      obtain ⟨v236, e237⟩ : ∃ v, M216 9 2 = v := ⟨_, rfl⟩
      have h238 := (bf_9_2 hP217).1; rw [e237] at h238
      have h239 := (bf_9_2 hP217).2; rw [e237] at h239
      obtain ⟨v240, e241⟩ : ∃ v, M216 6 4 = v := ⟨_, rfl⟩
      have h242 := (bf_6_4 hP217).1; rw [e241] at h242
      have h243 := (bf_6_4 hP217).2; rw [e241] at h243
      obtain ⟨v244, e245⟩ : ∃ v, M216 6 5 = v := ⟨_, rfl⟩
      have h246 := (bf_6_5 hP217).1; rw [e245] at h246
      have h247 := (bf_6_5 hP217).2; rw [e245] at h247
      refine wk_cv3 r152_31 kc_6_171 rfl (m7171_6v3 _ M216 (0 + (v14 * 5)) v229 hP217 (by first | with_reducible assumption | omega) (by first | with_reducible assumption | omega) (by first | with_reducible assumption | omega) (by first | with_reducible assumption | omega)) (cqI ?_)
      rintro v253 M248 ⟨hP249, hQ250, h254, h255, xh252⟩
      have hF251 : Fr fm_m7152_6v3 M0 M248 := hF219.tr hQ250 rfl
      subst hQ; exact wk_zret r152_34 ⟨by omega, by omega⟩ (⟨rfl, _, rfl, hP249, hF251, by omega, by omega, by have := ((hQ250.at g_9_3 rfl).trans e233); omega, by have := ((hQ250.at g_9_3 rfl).trans e233); omega, by have := ((hQ250.at g_9_2 rfl).trans e237); omega, by have := ((hQ250.at g_9_2 rfl).trans e237); have := ((hQ250.at g_9_3 rfl).trans e233); omega, by have := ((hQ250.at g_6_4 rfl).trans e241); omega, by have := ((hQ250.at g_6_5 rfl).trans e245); omega, by have := ((hQ250.at g_6_4 rfl).trans e241); omega, by have := ((hQ250.at g_6_4 rfl).trans e241); omega, by have := ((hQ250.at g_6_5 rfl).trans e245); omega, by have := ((hQ250.at g_6_5 rfl).trans e245); omega, by rcases (show v253 = 1 ∨ v253 = 0 by omega) with q9 | q9; (exact Or.inl ⟨q9, by rw [((hQ250.at g_9_3 rfl).trans e233)]; exact N_i (v2 := v49) r1 (by omega) (by omega) (by omega) (by omega)⟩); (exact Or.inr ⟨q9, by rw [((hQ250.at g_6_5 rfl).trans e245), ((hQ250.at g_6_4 rfl).trans e241)]; exact N_in (v2 := v49) r1 (by omega) (by omega) (by omega) (by omega) (by omega)⟩), (TXP_sm (Sm.fr hQ250 rfl) pr227), (TCP_sm (Sm.fr hQ250 rfl) pr228)⟩)
  · intro h256
    refine wk_c1 r152_10 ?_
    subst hQ; exact wk_zret r152_11 (by decide) (⟨rfl, _, rfl, hP2, hF4, by omega, by omega, by have := e18; omega, by have := e18; omega, by have := e22; omega, by have := e22; have := e18; omega, by have := e26; omega, by have := e30; omega, by omega, by omega, by omega, by omega, Or.inr ⟨by omega, by rw [e30, e26]; exact N0 xp0 xp1 (by omega) (by omega) (by omega)⟩, pr12, pr13⟩)
def fm_m7153_6v3 : Nat := 3941070043873280
/-- IslandHall$Parser.atom -/
theorem m7153_6v3 {B : eB} (d : Nat) (M0 : Mm) (p1 : Int) (x9_1 : Int) (x9_3 : Int) (x9_2 : Int) (x6_4 : Int) (x6_5 : Int) (x6_3 : Int) (T : Int → Int) (c0 : Cg) (gk : Int) (hP0 : Pw M0) (l1 : 3 ≤ p1) (u1 : p1 ≤ 3) (ex9_1 : M0 9 1 = x9_1) (lx9_1 : 0 ≤ x9_1) (ux9_1 : x9_1 ≤ 500) (ex9_3 : M0 9 3 = x9_3) (lx9_3 : 0 ≤ x9_3) (ux9_3 : x9_3 ≤ 500) (ex9_2 : M0 9 2 = x9_2) (lx9_2 : 0 ≤ x9_2) (ux9_2 : x9_2 ≤ 500) (ex6_4 : M0 6 4 = x6_4) (lx6_4 : 0 ≤ x6_4) (ux6_4 : x6_4 ≤ 6) (ex6_5 : M0 6 5 = x6_5) (lx6_5 : (-1) ≤ x6_5) (ux6_5 : x6_5 ≤ 500) (ex6_3 : M0 6 3 = x6_3) (lx6_3 : (-1) ≤ x6_3) (ux6_3 : x6_3 ≤ 7) (rp0 : 0 ≤ x9_1 + (-1) * x9_2) (rp1 : 0 ≤ x9_2 + (-1) * x9_3) (rp2 : 0 ≤ x9_1 + (-1) * x9_3) (xp0 : Rch T x9_1 x6_3 c0 (1, p1 + 1, x9_3, gk)) (xp1 : kw T x9_1 x9_3 ≠ 14) (xp2 : sgI T x9_1 x9_3 40 ≠ 1) (pp_TX : TXP T M0) (pp_TC : TCP T M0) : Ct B (d + 19) 153 [R 6, I p1] M0 (qI fun z M => Pw M ∧ Fr fm_m7153_6v3 M0 M ∧ 0 ≤ z ∧ z ≤ 1 ∧ 0 ≤ M 9 3 + (-1) * x9_3 ∧ 0 ≤ x9_1 + (-1) * (M 9 3) ∧ 0 ≤ x9_1 + (-1) * (M 9 2) ∧ 0 ≤ M 9 2 + (-1) * (M 9 3) ∧ 0 ≤ M 6 4 ∧ 0 ≤ M 6 5 + 1 ∧ (z = 1 → 0 ≤ M 6 4 + (-1) * x6_4) ∧ (z = 1 → 0 ≤ (-1) * (M 6 4) + x6_4) ∧ (z = 1 → 0 ≤ M 6 5 + (-1) * x6_5) ∧ (z = 1 → 0 ≤ (-1) * (M 6 5) + x6_5) ∧ ((z = 1 ∧ Rch T x9_1 x6_3 c0 (2, p1 + 1, M 9 3, 0)) ∨ (z = 0 ∧ Rch T x9_1 x6_3 c0 (3, 0, M 6 5, M 6 4))) ∧ (TXP T M) ∧ (TCP T M)) := by
  refine ct_of (d := d + 18) (k := 0) (L := [some (R 6), some (I p1)]) rfl rfl rfl ?_
  have hF0 := Fr.rf fm_m7153_6v3 M0
  generalize hQ : (qI fun z M => Pw M ∧ Fr fm_m7153_6v3 M0 M ∧ 0 ≤ z ∧ z ≤ 1 ∧ 0 ≤ M 9 3 + (-1) * x9_3 ∧ 0 ≤ x9_1 + (-1) * (M 9 3) ∧ 0 ≤ x9_1 + (-1) * (M 9 2) ∧ 0 ≤ M 9 2 + (-1) * (M 9 3) ∧ 0 ≤ M 6 4 ∧ 0 ≤ M 6 5 + 1 ∧ (z = 1 → 0 ≤ M 6 4 + (-1) * x6_4) ∧ (z = 1 → 0 ≤ (-1) * (M 6 4) + x6_4) ∧ (z = 1 → 0 ≤ M 6 5 + (-1) * x6_5) ∧ (z = 1 → 0 ≤ (-1) * (M 6 5) + x6_5) ∧ ((z = 1 ∧ Rch T x9_1 x6_3 c0 (2, p1 + 1, M 9 3, 0)) ∨ (z = 0 ∧ Rch T x9_1 x6_3 c0 (3, 0, M 6 5, M 6 4))) ∧ (TXP T M) ∧ (TCP T M)) = Q
  refine wk_al0 r153_0 (wk_getfr r153_1 fd_6_0 (br_6_0 hP0) (wk_cv1 r153_4 kc_9_237 rfl (m7237_9 _ M0 x9_1 x9_3 T hP0 ex9_1 (by first | with_reducible assumption | omega) (by first | with_reducible assumption | omega) ex9_3 (by first | with_reducible assumption | omega) (by first | with_reducible assumption | omega) pp_TX pp_TC) (cqI ?_)))
  rintro v6 M1 ⟨hP2, hQ3, h7, h8, xh5⟩
  obtain rfl := Fr.same hQ3
  refine wk_ifeq r153_7 ⟨by omega, by omega⟩ ?_ ?_
  · intro h9
    refine wk_al0 r153_16 (wk_c8 r153_17 (wk_cv2 r153_19 kc_6_175 rfl (m7175_6 _ M0 4114 x9_1 x9_3 x9_2 T hP0 (by decide) ex9_1 (by first | with_reducible assumption | omega) (by first | with_reducible assumption | omega) ex9_3 (by first | with_reducible assumption | omega) (by first | with_reducible assumption | omega) ex9_2 (by first | with_reducible assumption | omega) (by first | with_reducible assumption | omega) (by omega) (by omega) (by omega) (by first | assumption | omega | (unfold stepok; omega)) pp_TX pp_TC) (cqI ?_)))
    rintro v22 M10 ⟨hP11, hQ12, h23, h24, h14, h15, h16, h17, h18, xh19, pr20, pr21⟩
    have hF13 : Fr fm_m7153_6v3 M0 M10 := hF0.tr hQ12 rfl
    obtain ⟨v25, e26⟩ : ∃ v, M10 9 3 = v := ⟨_, rfl⟩
    have h27 := (bf_9_3 hP11).1; rw [e26] at h27
    have h28 := (bf_9_3 hP11).2; rw [e26] at h28
    obtain ⟨v29, e30⟩ : ∃ v, M10 9 2 = v := ⟨_, rfl⟩
    have h31 := (bf_9_2 hP11).1; rw [e30] at h31
    have h32 := (bf_9_2 hP11).2; rw [e30] at h32
    rw [show wix 4114 = 18 from rfl] at xh19
    refine wk_ifeq r153_22 ⟨by omega, by omega⟩ ?_ ?_
    · intro h33
      obtain rfl : x9_3 = v25 := by omega
      obtain rfl : x9_2 = v29 := by omega
      refine wk_al0 r153_38 (wk_c8 r153_39 (wk_cv2 r153_41 kc_6_175 rfl (m7175_6 _ M10 4115 x9_1 x9_3 x9_2 T hP11 (by decide) ((hQ12.at g_9_1 rfl).trans ex9_1) (by first | with_reducible assumption | omega) (by first | with_reducible assumption | omega) e26 (by first | with_reducible assumption | omega) (by first | with_reducible assumption | omega) e30 (by first | with_reducible assumption | omega) (by first | with_reducible assumption | omega) (by omega) (by omega) (by omega) (by first | assumption | omega | (unfold stepok; omega)) pr20 pr21) (cqI ?_)))
      rintro v46 M34 ⟨hP35, hQ36, h47, h48, h38, h39, h40, h41, h42, xh43, pr44, pr45⟩
      have hF37 : Fr fm_m7153_6v3 M0 M34 := hF13.tr hQ36 rfl
      obtain ⟨v49, e50⟩ : ∃ v, M34 9 3 = v := ⟨_, rfl⟩
      have h51 := (bf_9_3 hP35).1; rw [e50] at h51
      have h52 := (bf_9_3 hP35).2; rw [e50] at h52
      obtain ⟨v53, e54⟩ : ∃ v, M34 9 2 = v := ⟨_, rfl⟩
      have h55 := (bf_9_2 hP35).1; rw [e54] at h55
      have h56 := (bf_9_2 hP35).2; rw [e54] at h56
      rw [show wix 4115 = 8 from rfl] at xh43
      refine wk_ifeq r153_44 ⟨by omega, by omega⟩ ?_ ?_
      · intro h57
        obtain rfl : x9_3 = v49 := by omega
        obtain rfl : x9_2 = v53 := by omega
        refine wk_al0 r153_61 (wk_c8 r153_62 (wk_cv2 r153_64 kc_6_175 rfl (m7175_6 _ M34 4116 x9_1 x9_3 x9_2 T hP35 (by decide) ((hQ36.at g_9_1 rfl).trans ((hQ12.at g_9_1 rfl).trans ex9_1)) (by first | with_reducible assumption | omega) (by first | with_reducible assumption | omega) e50 (by first | with_reducible assumption | omega) (by first | with_reducible assumption | omega) e54 (by first | with_reducible assumption | omega) (by first | with_reducible assumption | omega) (by omega) (by omega) (by omega) (by first | assumption | omega | (unfold stepok; omega)) pr44 pr45) (cqI ?_)))
        rintro v70 M58 ⟨hP59, hQ60, h71, h72, h62, h63, h64, h65, h66, xh67, pr68, pr69⟩
        have hF61 : Fr fm_m7153_6v3 M0 M58 := hF37.tr hQ60 rfl
        obtain ⟨v73, e74⟩ : ∃ v, M58 9 3 = v := ⟨_, rfl⟩
        have h75 := (bf_9_3 hP59).1; rw [e74] at h75
        have h76 := (bf_9_3 hP59).2; rw [e74] at h76
        obtain ⟨v77, e78⟩ : ∃ v, M58 9 2 = v := ⟨_, rfl⟩
        have h79 := (bf_9_2 hP59).1; rw [e78] at h79
        have h80 := (bf_9_2 hP59).2; rw [e78] at h80
        rw [show wix 4116 = 20 from rfl] at xh67
        refine wk_ifeq r153_67 ⟨by omega, by omega⟩ ?_ ?_
        · intro h81
          obtain rfl : x9_3 = v73 := by omega
          obtain rfl : x9_2 = v77 := by omega
          refine wk_al0 r153_83 (wk_c8 r153_84 (wk_cv2 r153_86 kc_6_175 rfl (m7175_6 _ M58 4117 x9_1 x9_3 x9_2 T hP59 (by decide) ((hQ60.at g_9_1 rfl).trans ((hQ36.at g_9_1 rfl).trans ((hQ12.at g_9_1 rfl).trans ex9_1))) (by first | with_reducible assumption | omega) (by first | with_reducible assumption | omega) e74 (by first | with_reducible assumption | omega) (by first | with_reducible assumption | omega) e78 (by first | with_reducible assumption | omega) (by first | with_reducible assumption | omega) (by omega) (by omega) (by omega) (by first | assumption | omega | (unfold stepok; omega)) pr68 pr69) (cqI ?_)))
          rintro v94 M82 ⟨hP83, hQ84, h95, h96, h86, h87, h88, h89, h90, xh91, pr92, pr93⟩
          have hF85 : Fr fm_m7153_6v3 M0 M82 := hF61.tr hQ84 rfl
          obtain ⟨v97, e98⟩ : ∃ v, M82 9 3 = v := ⟨_, rfl⟩
          have h99 := (bf_9_3 hP83).1; rw [e98] at h99
          have h100 := (bf_9_3 hP83).2; rw [e98] at h100
          obtain ⟨v101, e102⟩ : ∃ v, M82 9 2 = v := ⟨_, rfl⟩
          have h103 := (bf_9_2 hP83).1; rw [e102] at h103
          have h104 := (bf_9_2 hP83).2; rw [e102] at h104
          rw [show wix 4117 = 21 from rfl] at xh91
          refine wk_ifeq r153_89 ⟨by omega, by omega⟩ ?_ ?_
          · intro h105
            obtain rfl : x9_3 = v97 := by omega
            obtain rfl : x9_2 = v101 := by omega
            refine wk_al0 r153_97 (wk_c8 r153_98 (wk_cv2 r153_100 kc_6_175 rfl (m7175_6 _ M82 4118 x9_1 x9_3 x9_2 T hP83 (by decide) ((hQ84.at g_9_1 rfl).trans ((hQ60.at g_9_1 rfl).trans ((hQ36.at g_9_1 rfl).trans ((hQ12.at g_9_1 rfl).trans ex9_1)))) (by first | with_reducible assumption | omega) (by first | with_reducible assumption | omega) e98 (by first | with_reducible assumption | omega) (by first | with_reducible assumption | omega) e102 (by first | with_reducible assumption | omega) (by first | with_reducible assumption | omega) (by omega) (by omega) (by omega) (by first | assumption | omega | (unfold stepok; omega)) pr92 pr93) (cqI ?_)))
            rintro v118 M106 ⟨hP107, hQ108, h119, h120, h110, h111, h112, h113, h114, xh115, pr116, pr117⟩
            have hF109 : Fr fm_m7153_6v3 M0 M106 := hF85.tr hQ108 rfl
            obtain ⟨v121, e122⟩ : ∃ v, M106 9 3 = v := ⟨_, rfl⟩
            have h123 := (bf_9_3 hP107).1; rw [e122] at h123
            have h124 := (bf_9_3 hP107).2; rw [e122] at h124
            obtain ⟨v125, e126⟩ : ∃ v, M106 9 2 = v := ⟨_, rfl⟩
            have h127 := (bf_9_2 hP107).1; rw [e126] at h127
            have h128 := (bf_9_2 hP107).2; rw [e126] at h128
            rw [show wix 4118 = 19 from rfl] at xh115
            refine wk_ifeq r153_103 ⟨by omega, by omega⟩ ?_ ?_
            · intro h129
              obtain rfl : x9_3 = v121 := by omega
              obtain rfl : x9_2 = v125 := by omega
              refine wk_al0 r153_117 (wk_c1 r153_118 (wk_cv2 r153_119 kc_6_159 rfl (m7159_6 _ M106 1 x9_3 hP107 (by decide) (by decide) e122 (by first | with_reducible assumption | omega) (by first | with_reducible assumption | omega)) (cqI ?_)))
              rintro v138 M130 ⟨hP131, hQ132, h139, h140, h134, h135, h136, h137⟩
              have hF133 : Fr fm_m7153_6v3 M0 M130 := hF109.tr hQ132 rfl
              obtain ⟨v141, e142⟩ : ∃ v, M130 6 4 = v := ⟨_, rfl⟩
              have h143 := (bf_6_4 hP131).1; rw [e142] at h143
              have h144 := (bf_6_4 hP131).2; rw [e142] at h144
              obtain ⟨v145, e146⟩ : ∃ v, M130 6 5 = v := ⟨_, rfl⟩
              have h147 := (bf_6_5 hP131).1; rw [e146] at h147
              have h148 := (bf_6_5 hP131).2; rw [e146] at h148
              subst hQ; exact wk_zret r153_122 ⟨by omega, by omega⟩ (⟨rfl, _, rfl, hP131, hF133, by omega, by omega, by have := ((hQ132.at g_9_3 rfl).trans e122); omega, by have := ((hQ132.at g_9_3 rfl).trans e122); omega, by have := ((hQ132.at g_9_2 rfl).trans e126); omega, by have := ((hQ132.at g_9_2 rfl).trans e126); have := ((hQ132.at g_9_3 rfl).trans e122); omega, by have := e142; omega, by have := e146; omega, by omega, by omega, by omega, by omega, Or.inr ⟨by omega, by rw [e146, e142]; exact A_n xp0 (by omega) (by omega) (by omega) (by omega) (by omega) (by omega) (by omega) (by omega) (by omega) (by omega)⟩, (TXP_sm (Sm.fr hQ132 rfl) pr116), (TCP_sm (Sm.fr hQ132 rfl) pr117)⟩)
            · intro h149
              have r1 : Rch T x9_1 x6_3 c0 (stM T x9_1 (p1 + 1) v121) := A_m xp0 (by omega) (by omega) (by omega) (by omega)
              refine wk_al0 r153_106 (wk_al0 r153_107 (wk_cv1 r153_108 kc_6_173 rfl (m7173_6 _ M106 x9_1 v121 v125 x6_4 x6_5 T hP107 ((hQ108.at g_9_1 rfl).trans ((hQ84.at g_9_1 rfl).trans ((hQ60.at g_9_1 rfl).trans ((hQ36.at g_9_1 rfl).trans ((hQ12.at g_9_1 rfl).trans ex9_1))))) (by first | with_reducible assumption | omega) (by first | with_reducible assumption | omega) e122 (by first | with_reducible assumption | omega) (by first | with_reducible assumption | omega) e126 (by first | with_reducible assumption | omega) (by first | with_reducible assumption | omega) ((hQ108.at g_6_4 rfl).trans ((hQ84.at g_6_4 rfl).trans ((hQ60.at g_6_4 rfl).trans ((hQ36.at g_6_4 rfl).trans ((hQ12.at g_6_4 rfl).trans ex6_4))))) (by first | with_reducible assumption | omega) (by first | with_reducible assumption | omega) ((hQ108.at g_6_5 rfl).trans ((hQ84.at g_6_5 rfl).trans ((hQ60.at g_6_5 rfl).trans ((hQ36.at g_6_5 rfl).trans ((hQ12.at g_6_5 rfl).trans ex6_5))))) (by first | with_reducible assumption | omega) (by first | with_reducible assumption | omega) (by omega) (by omega) (by omega) pr116 pr117) (cqI ?_)))
              rintro v163 M150 ⟨hP151, hQ152, h164, h165, h154, h155, h156, h157, h158, h159, xh160, pr161, pr162⟩
              have hF153 : Fr fm_m7153_6v3 M0 M150 := hF109.tr hQ152 rfl
              obtain ⟨v166, e167⟩ : ∃ v, M150 9 3 = v := ⟨_, rfl⟩
              have h168 := (bf_9_3 hP151).1; rw [e167] at h168
              have h169 := (bf_9_3 hP151).2; rw [e167] at h169
              obtain ⟨v170, e171⟩ : ∃ v, M150 9 2 = v := ⟨_, rfl⟩
              have h172 := (bf_9_2 hP151).1; rw [e171] at h172
              have h173 := (bf_9_2 hP151).2; rw [e171] at h173
              obtain ⟨v174, e175⟩ : ∃ v, M150 6 4 = v := ⟨_, rfl⟩
              have h176 := (bf_6_4 hP151).1; rw [e175] at h176
              have h177 := (bf_6_4 hP151).2; rw [e175] at h177
              obtain ⟨v178, e179⟩ : ∃ v, M150 6 5 = v := ⟨_, rfl⟩
              have h180 := (bf_6_5 hP151).1; rw [e179] at h180
              have h181 := (bf_6_5 hP151).2; rw [e179] at h181
              refine wk_cv2 r153_111 kc_6_163 rfl (m7163_6 _ M150 v163 x9_1 v166 v170 v174 v178 x6_3 T c0 ((p1 + 1)) hP151 (by first | with_reducible assumption | omega) (by first | with_reducible assumption | omega) ((hQ152.at g_9_1 rfl).trans ((hQ108.at g_9_1 rfl).trans ((hQ84.at g_9_1 rfl).trans ((hQ60.at g_9_1 rfl).trans ((hQ36.at g_9_1 rfl).trans ((hQ12.at g_9_1 rfl).trans ex9_1)))))) (by first | with_reducible assumption | omega) (by first | with_reducible assumption | omega) e167 (by first | with_reducible assumption | omega) (by first | with_reducible assumption | omega) e171 (by first | with_reducible assumption | omega) (by first | with_reducible assumption | omega) e175 (by first | with_reducible assumption | omega) (by first | with_reducible assumption | omega) e179 (by first | with_reducible assumption | omega) (by first | with_reducible assumption | omega) ((hQ152.at g_6_3 rfl).trans ((hQ108.at g_6_3 rfl).trans ((hQ84.at g_6_3 rfl).trans ((hQ60.at g_6_3 rfl).trans ((hQ36.at g_6_3 rfl).trans ((hQ12.at g_6_3 rfl).trans ex6_3)))))) (by first | with_reducible assumption | omega) (by first | with_reducible assumption | omega) (by omega) (by omega) (by omega) (MX_mk r1 (by omega)) pr161 pr162) (cqI ?_)
              rintro v200 M182 ⟨hP183, hQ184, h201, h202, h186, h187, h188, h189, h190, h191, h192, h193, h194, h195, h196, xh197, pr198, pr199⟩
              have hF185 : Fr fm_m7153_6v3 M0 M182 := hF153.tr hQ184 rfl
              obtain ⟨v203, e204⟩ : ∃ v, M182 9 3 = v := ⟨_, rfl⟩
              have h205 := (bf_9_3 hP183).1; rw [e204] at h205
              have h206 := (bf_9_3 hP183).2; rw [e204] at h206
              obtain ⟨v207, e208⟩ : ∃ v, M182 9 2 = v := ⟨_, rfl⟩
              have h209 := (bf_9_2 hP183).1; rw [e208] at h209
              have h210 := (bf_9_2 hP183).2; rw [e208] at h210
              obtain ⟨v211, e212⟩ : ∃ v, M182 6 4 = v := ⟨_, rfl⟩
              have h213 := (bf_6_4 hP183).1; rw [e212] at h213
              have h214 := (bf_6_4 hP183).2; rw [e212] at h214
              obtain ⟨v215, e216⟩ : ∃ v, M182 6 5 = v := ⟨_, rfl⟩
              have h217 := (bf_6_5 hP183).1; rw [e216] at h217
              have h218 := (bf_6_5 hP183).2; rw [e216] at h218
              refine wk_goto r153_114 ?_
              subst hQ; exact wk_zret r153_122 ⟨by omega, by omega⟩ (⟨rfl, _, rfl, hP183, hF185, by omega, by omega, by have := e204; omega, by have := e204; omega, by have := e208; omega, by have := e208; have := e204; omega, by have := e212; omega, by have := e216; omega, by have := e212; omega, by have := e212; omega, by have := e216; omega, by have := e216; omega, by rcases (show v200 = 1 ∨ v200 = 0 by omega) with q9 | q9; (exact Or.inl ⟨q9, by rw [e204]; exact X_k (or_l xh197 (by omega)) (by omega)⟩); (exact Or.inr ⟨q9, by rw [e216, e212]; exact F_k (or_r xh197 (by omega)) (by omega) (by omega)⟩), pr198, pr199⟩)
          · intro h219
            have r1 : AX T x9_1 x6_3 c0 (p1 + 1) 99 v97 := A1 xp0 (by omega) (by omega) (by omega) (by omega) (by omega)
            refine wk_al0 r153_92 (wk_cv1 r153_93 kc_6_176 rfl (m7176_6 _ M82 x9_1 v97 v101 x6_4 x6_5 x6_3 T c0 ((p1 + 1)) hP83 ((hQ84.at g_9_1 rfl).trans ((hQ60.at g_9_1 rfl).trans ((hQ36.at g_9_1 rfl).trans ((hQ12.at g_9_1 rfl).trans ex9_1)))) (by first | with_reducible assumption | omega) (by first | with_reducible assumption | omega) e98 (by first | with_reducible assumption | omega) (by first | with_reducible assumption | omega) e102 (by first | with_reducible assumption | omega) (by first | with_reducible assumption | omega) ((hQ84.at g_6_4 rfl).trans ((hQ60.at g_6_4 rfl).trans ((hQ36.at g_6_4 rfl).trans ((hQ12.at g_6_4 rfl).trans ex6_4)))) (by first | with_reducible assumption | omega) (by first | with_reducible assumption | omega) ((hQ84.at g_6_5 rfl).trans ((hQ60.at g_6_5 rfl).trans ((hQ36.at g_6_5 rfl).trans ((hQ12.at g_6_5 rfl).trans ex6_5)))) (by first | with_reducible assumption | omega) (by first | with_reducible assumption | omega) ((hQ84.at g_6_3 rfl).trans ((hQ60.at g_6_3 rfl).trans ((hQ36.at g_6_3 rfl).trans ((hQ12.at g_6_3 rfl).trans ex6_3)))) (by first | with_reducible assumption | omega) (by first | with_reducible assumption | omega) (by omega) (by omega) (by omega) (r1) pr92 pr93) (cqI ?_))
            rintro v237 M220 ⟨hP221, hQ222, h238, h239, h224, h225, h226, h227, h228, h229, h230, h231, h232, h233, xh234, pr235, pr236⟩
            have hF223 : Fr fm_m7153_6v3 M0 M220 := hF85.tr hQ222 rfl
            obtain ⟨v240, e241⟩ : ∃ v, M220 9 3 = v := ⟨_, rfl⟩
            have h242 := (bf_9_3 hP221).1; rw [e241] at h242
            have h243 := (bf_9_3 hP221).2; rw [e241] at h243
            obtain ⟨v244, e245⟩ : ∃ v, M220 9 2 = v := ⟨_, rfl⟩
            have h246 := (bf_9_2 hP221).1; rw [e245] at h246
            have h247 := (bf_9_2 hP221).2; rw [e245] at h247
            obtain ⟨v248, e249⟩ : ∃ v, M220 6 4 = v := ⟨_, rfl⟩
            have h250 := (bf_6_4 hP221).1; rw [e249] at h250
            have h251 := (bf_6_4 hP221).2; rw [e249] at h251
            obtain ⟨v252, e253⟩ : ∃ v, M220 6 5 = v := ⟨_, rfl⟩
            have h254 := (bf_6_5 hP221).1; rw [e253] at h254
            have h255 := (bf_6_5 hP221).2; rw [e253] at h255
            subst hQ; exact wk_zret r153_96 ⟨by omega, by omega⟩ (⟨rfl, _, rfl, hP221, hF223, by omega, by omega, by have := e241; omega, by have := e241; omega, by have := e245; omega, by have := e245; have := e241; omega, by have := e249; omega, by have := e253; omega, by have := e249; omega, by have := e249; omega, by have := e253; omega, by have := e253; omega, by rcases (show v237 = 1 ∨ v237 = 0 by omega) with q9 | q9; (exact Or.inl ⟨q9, by rw [e241]; exact X_k (or_l xh234 (by omega)) (by omega)⟩); (exact Or.inr ⟨q9, by rw [e253, e249]; exact F_k (or_r xh234 (by omega)) (by omega) (by omega)⟩), pr235, pr236⟩)
        · intro h256
          have r1 : AX T x9_1 x6_3 c0 (p1 + 1) 1 v73 := A1 xp0 (by omega) (by omega) (by omega) (by omega) (by omega)
          refine wk_al0 r153_70 (wk_c2 r153_71 (wk_al0 r153_73 (wk_c1 r153_74 (wk_c1 r153_75 (wk_cv3 r153_76 kc_6_167 rfl (m7167_6 _ M58 0 1 x9_1 v73 v77 x6_4 x6_5 T hP59 (by decide) (by decide) (by decide) (by decide) ((hQ60.at g_9_1 rfl).trans ((hQ36.at g_9_1 rfl).trans ((hQ12.at g_9_1 rfl).trans ex9_1))) (by first | with_reducible assumption | omega) (by first | with_reducible assumption | omega) e74 (by first | with_reducible assumption | omega) (by first | with_reducible assumption | omega) e78 (by first | with_reducible assumption | omega) (by first | with_reducible assumption | omega) ((hQ60.at g_6_4 rfl).trans ((hQ36.at g_6_4 rfl).trans ((hQ12.at g_6_4 rfl).trans ex6_4))) (by first | with_reducible assumption | omega) (by first | with_reducible assumption | omega) ((hQ60.at g_6_5 rfl).trans ((hQ36.at g_6_5 rfl).trans ((hQ12.at g_6_5 rfl).trans ex6_5))) (by first | with_reducible assumption | omega) (by first | with_reducible assumption | omega) (by omega) (by omega) (by omega) pr68 pr69) (cqI ?_))))))
          rintro v271 M257 ⟨hP258, hQ259, h272, h273, h261, h262, h263, h264, h265, h266, h267, xh268, pr269, pr270⟩
          have hF260 : Fr fm_m7153_6v3 M0 M257 := hF61.tr hQ259 rfl
          obtain ⟨v274, e275⟩ : ∃ v, M257 9 3 = v := ⟨_, rfl⟩
          have h276 := (bf_9_3 hP258).1; rw [e275] at h276
          have h277 := (bf_9_3 hP258).2; rw [e275] at h277
          obtain ⟨v278, e279⟩ : ∃ v, M257 9 2 = v := ⟨_, rfl⟩
          have h280 := (bf_9_2 hP258).1; rw [e279] at h280
          have h281 := (bf_9_2 hP258).2; rw [e279] at h281
          obtain ⟨v282, e283⟩ : ∃ v, M257 6 4 = v := ⟨_, rfl⟩
          have h284 := (bf_6_4 hP258).1; rw [e283] at h284
          have h285 := (bf_6_4 hP258).2; rw [e283] at h285
          obtain ⟨v286, e287⟩ : ∃ v, M257 6 5 = v := ⟨_, rfl⟩
          have h288 := (bf_6_5 hP258).1; rw [e287] at h288
          have h289 := (bf_6_5 hP258).2; rw [e287] at h289
          refine wk_cv3 r153_79 kc_6_171 rfl (m7171_6 _ M257 46 v271 hP258 (by decide) (by decide) (by first | with_reducible assumption | omega) (by first | with_reducible assumption | omega)) (cqI ?_)
          rintro v295 M290 ⟨hP291, hQ292, h296, h297, xh294⟩
          have hF293 : Fr fm_m7153_6v3 M0 M290 := hF260.tr hQ292 rfl
          subst hQ; exact wk_zret r153_82 ⟨by omega, by omega⟩ (⟨rfl, _, rfl, hP291, hF293, by omega, by omega, by have := ((hQ292.at g_9_3 rfl).trans e275); omega, by have := ((hQ292.at g_9_3 rfl).trans e275); omega, by have := ((hQ292.at g_9_2 rfl).trans e279); omega, by have := ((hQ292.at g_9_2 rfl).trans e279); have := ((hQ292.at g_9_3 rfl).trans e275); omega, by have := ((hQ292.at g_6_4 rfl).trans e283); omega, by have := ((hQ292.at g_6_5 rfl).trans e287); omega, by have := ((hQ292.at g_6_4 rfl).trans e283); omega, by have := ((hQ292.at g_6_4 rfl).trans e283); omega, by have := ((hQ292.at g_6_5 rfl).trans e287); omega, by have := ((hQ292.at g_6_5 rfl).trans e287); omega, by rcases (show v295 = 1 ∨ v295 = 0 by omega) with q9 | q9; (exact Or.inl ⟨q9, by rw [((hQ292.at g_9_3 rfl).trans e275)]; exact AX_0 r1 (by omega) (by omega)⟩); (exact Or.inr ⟨q9, by rw [((hQ292.at g_6_5 rfl).trans e287), ((hQ292.at g_6_4 rfl).trans e283)]; exact AX_e r1 (by omega) (by omega) (by omega)⟩), (TXP_sm (Sm.fr hQ292 rfl) pr269), (TCP_sm (Sm.fr hQ292 rfl) pr270)⟩)
      · intro h298
        have r1 : AX T x9_1 x6_3 c0 (p1 + 1) 6 v49 := A1 xp0 (by omega) (by omega) (by omega) (by omega) (by omega)
        refine wk_al0 r153_47 (wk_c2 r153_48 (wk_al0 r153_50 (wk_c1 r153_51 (wk_c2 r153_52 (wk_cv3 r153_54 kc_6_167 rfl (m7167_6 _ M34 0 6 x9_1 v49 v53 x6_4 x6_5 T hP35 (by decide) (by decide) (by decide) (by decide) ((hQ36.at g_9_1 rfl).trans ((hQ12.at g_9_1 rfl).trans ex9_1)) (by first | with_reducible assumption | omega) (by first | with_reducible assumption | omega) e50 (by first | with_reducible assumption | omega) (by first | with_reducible assumption | omega) e54 (by first | with_reducible assumption | omega) (by first | with_reducible assumption | omega) ((hQ36.at g_6_4 rfl).trans ((hQ12.at g_6_4 rfl).trans ex6_4)) (by first | with_reducible assumption | omega) (by first | with_reducible assumption | omega) ((hQ36.at g_6_5 rfl).trans ((hQ12.at g_6_5 rfl).trans ex6_5)) (by first | with_reducible assumption | omega) (by first | with_reducible assumption | omega) (by omega) (by omega) (by omega) pr44 pr45) (cqI ?_))))))
        rintro v313 M299 ⟨hP300, hQ301, h314, h315, h303, h304, h305, h306, h307, h308, h309, xh310, pr311, pr312⟩
        have hF302 : Fr fm_m7153_6v3 M0 M299 := hF37.tr hQ301 rfl
        obtain ⟨v316, e317⟩ : ∃ v, M299 9 3 = v := ⟨_, rfl⟩
        have h318 := (bf_9_3 hP300).1; rw [e317] at h318
        have h319 := (bf_9_3 hP300).2; rw [e317] at h319
        obtain ⟨v320, e321⟩ : ∃ v, M299 9 2 = v := ⟨_, rfl⟩
        have h322 := (bf_9_2 hP300).1; rw [e321] at h322
        have h323 := (bf_9_2 hP300).2; rw [e321] at h323
        obtain ⟨v324, e325⟩ : ∃ v, M299 6 4 = v := ⟨_, rfl⟩
        have h326 := (bf_6_4 hP300).1; rw [e325] at h326
        have h327 := (bf_6_4 hP300).2; rw [e325] at h327
        obtain ⟨v328, e329⟩ : ∃ v, M299 6 5 = v := ⟨_, rfl⟩
        have h330 := (bf_6_5 hP300).1; rw [e329] at h330
        have h331 := (bf_6_5 hP300).2; rw [e329] at h331
        refine wk_cv3 r153_57 kc_6_171 rfl (m7171_6v1 _ M299 39 v313 hP300 (by decide) (by decide) (by first | with_reducible assumption | omega) (by first | with_reducible assumption | omega)) (cqI ?_)
        rintro v337 M332 ⟨hP333, hQ334, h338, h339, xh336⟩
        have hF335 : Fr fm_m7153_6v3 M0 M332 := hF302.tr hQ334 rfl
        subst hQ; exact wk_zret r153_60 ⟨by omega, by omega⟩ (⟨rfl, _, rfl, hP333, hF335, by omega, by omega, by have := ((hQ334.at g_9_3 rfl).trans e317); omega, by have := ((hQ334.at g_9_3 rfl).trans e317); omega, by have := ((hQ334.at g_9_2 rfl).trans e321); omega, by have := ((hQ334.at g_9_2 rfl).trans e321); have := ((hQ334.at g_9_3 rfl).trans e317); omega, by have := ((hQ334.at g_6_4 rfl).trans e325); omega, by have := ((hQ334.at g_6_5 rfl).trans e329); omega, by have := ((hQ334.at g_6_4 rfl).trans e325); omega, by have := ((hQ334.at g_6_4 rfl).trans e325); omega, by have := ((hQ334.at g_6_5 rfl).trans e329); omega, by have := ((hQ334.at g_6_5 rfl).trans e329); omega, by rcases (show v337 = 1 ∨ v337 = 0 by omega) with q9 | q9; (exact Or.inl ⟨q9, by rw [((hQ334.at g_9_3 rfl).trans e317)]; exact AX_0 r1 (by omega) (by omega)⟩); (exact Or.inr ⟨q9, by rw [((hQ334.at g_6_5 rfl).trans e329), ((hQ334.at g_6_4 rfl).trans e325)]; exact AX_e r1 (by omega) (by omega) (by omega)⟩), (TXP_sm (Sm.fr hQ334 rfl) pr311), (TCP_sm (Sm.fr hQ334 rfl) pr312)⟩)
    · intro h340
      have r1 : AX T x9_1 x6_3 c0 (p1 + 1) 3 v25 := A1 xp0 (by omega) (by omega) (by omega) (by omega) (by omega)
      refine wk_al0 r153_25 (wk_c2 r153_26 (wk_al0 r153_28 (wk_c1 r153_29 (wk_c1 r153_30 (wk_cv3 r153_31 kc_6_167 rfl (m7167_6 _ M10 0 3 x9_1 v25 v29 x6_4 x6_5 T hP11 (by decide) (by decide) (by decide) (by decide) ((hQ12.at g_9_1 rfl).trans ex9_1) (by first | with_reducible assumption | omega) (by first | with_reducible assumption | omega) e26 (by first | with_reducible assumption | omega) (by first | with_reducible assumption | omega) e30 (by first | with_reducible assumption | omega) (by first | with_reducible assumption | omega) ((hQ12.at g_6_4 rfl).trans ex6_4) (by first | with_reducible assumption | omega) (by first | with_reducible assumption | omega) ((hQ12.at g_6_5 rfl).trans ex6_5) (by first | with_reducible assumption | omega) (by first | with_reducible assumption | omega) (by omega) (by omega) (by omega) pr20 pr21) (cqI ?_))))))
      rintro v355 M341 ⟨hP342, hQ343, h356, h357, h345, h346, h347, h348, h349, h350, h351, xh352, pr353, pr354⟩
      have hF344 : Fr fm_m7153_6v3 M0 M341 := hF13.tr hQ343 rfl
      obtain ⟨v358, e359⟩ : ∃ v, M341 9 3 = v := ⟨_, rfl⟩
      have h360 := (bf_9_3 hP342).1; rw [e359] at h360
      have h361 := (bf_9_3 hP342).2; rw [e359] at h361
      obtain ⟨v362, e363⟩ : ∃ v, M341 9 2 = v := ⟨_, rfl⟩
      have h364 := (bf_9_2 hP342).1; rw [e363] at h364
      have h365 := (bf_9_2 hP342).2; rw [e363] at h365
      obtain ⟨v366, e367⟩ : ∃ v, M341 6 4 = v := ⟨_, rfl⟩
      have h368 := (bf_6_4 hP342).1; rw [e367] at h368
      have h369 := (bf_6_4 hP342).2; rw [e367] at h369
      obtain ⟨v370, e371⟩ : ∃ v, M341 6 5 = v := ⟨_, rfl⟩
      have h372 := (bf_6_5 hP342).1; rw [e371] at h372
      have h373 := (bf_6_5 hP342).2; rw [e371] at h373
      refine wk_cv3 r153_34 kc_6_171 rfl (m7171_6v2 _ M341 35 v355 hP342 (by decide) (by decide) (by first | with_reducible assumption | omega) (by first | with_reducible assumption | omega)) (cqI ?_)
      rintro v379 M374 ⟨hP375, hQ376, h380, h381, xh378⟩
      have hF377 : Fr fm_m7153_6v3 M0 M374 := hF344.tr hQ376 rfl
      subst hQ; exact wk_zret r153_37 ⟨by omega, by omega⟩ (⟨rfl, _, rfl, hP375, hF377, by omega, by omega, by have := ((hQ376.at g_9_3 rfl).trans e359); omega, by have := ((hQ376.at g_9_3 rfl).trans e359); omega, by have := ((hQ376.at g_9_2 rfl).trans e363); omega, by have := ((hQ376.at g_9_2 rfl).trans e363); have := ((hQ376.at g_9_3 rfl).trans e359); omega, by have := ((hQ376.at g_6_4 rfl).trans e367); omega, by have := ((hQ376.at g_6_5 rfl).trans e371); omega, by have := ((hQ376.at g_6_4 rfl).trans e367); omega, by have := ((hQ376.at g_6_4 rfl).trans e367); omega, by have := ((hQ376.at g_6_5 rfl).trans e371); omega, by have := ((hQ376.at g_6_5 rfl).trans e371); omega, by rcases (show v379 = 1 ∨ v379 = 0 by omega) with q9 | q9; (exact Or.inl ⟨q9, by rw [((hQ376.at g_9_3 rfl).trans e359)]; exact AX_0 r1 (by omega) (by omega)⟩); (exact Or.inr ⟨q9, by rw [((hQ376.at g_6_5 rfl).trans e371), ((hQ376.at g_6_4 rfl).trans e367)]; exact AX_e r1 (by omega) (by omega) (by omega)⟩), (TXP_sm (Sm.fr hQ376 rfl) pr353), (TCP_sm (Sm.fr hQ376 rfl) pr354)⟩)
  · intro h382
    refine wk_al0 r153_10 (wk_il1 r153_11 (wk_cv2 r153_12 kc_6_152 rfl (m7152_6v3 _ M0 p1 x9_1 x9_3 x9_2 x6_4 x6_5 x6_3 T c0 gk hP0 (by first | with_reducible assumption | omega) (by first | with_reducible assumption | omega) ex9_1 (by first | with_reducible assumption | omega) (by first | with_reducible assumption | omega) ex9_3 (by first | with_reducible assumption | omega) (by first | with_reducible assumption | omega) ex9_2 (by first | with_reducible assumption | omega) (by first | with_reducible assumption | omega) ex6_4 (by first | with_reducible assumption | omega) (by first | with_reducible assumption | omega) ex6_5 (by first | with_reducible assumption | omega) (by first | with_reducible assumption | omega) ex6_3 (by first | with_reducible assumption | omega) (by first | with_reducible assumption | omega) (by omega) (by omega) (by omega) (xp0) (by omega) pp_TX pp_TC) (cqI ?_)))
    rintro v400 M383 ⟨hP384, hQ385, h401, h402, h387, h388, h389, h390, h391, h392, h393, h394, h395, h396, xh397, pr398, pr399⟩
    have hF386 : Fr fm_m7153_6v3 M0 M383 := hF0.tr hQ385 rfl
    obtain ⟨v403, e404⟩ : ∃ v, M383 9 3 = v := ⟨_, rfl⟩
    have h405 := (bf_9_3 hP384).1; rw [e404] at h405
    have h406 := (bf_9_3 hP384).2; rw [e404] at h406
    obtain ⟨v407, e408⟩ : ∃ v, M383 9 2 = v := ⟨_, rfl⟩
    have h409 := (bf_9_2 hP384).1; rw [e408] at h409
    have h410 := (bf_9_2 hP384).2; rw [e408] at h410
    obtain ⟨v411, e412⟩ : ∃ v, M383 6 4 = v := ⟨_, rfl⟩
    have h413 := (bf_6_4 hP384).1; rw [e412] at h413
    have h414 := (bf_6_4 hP384).2; rw [e412] at h414
    obtain ⟨v415, e416⟩ : ∃ v, M383 6 5 = v := ⟨_, rfl⟩
    have h417 := (bf_6_5 hP384).1; rw [e416] at h417
    have h418 := (bf_6_5 hP384).2; rw [e416] at h418
    subst hQ; exact wk_zret r153_15 ⟨by omega, by omega⟩ (⟨rfl, _, rfl, hP384, hF386, by omega, by omega, by have := e404; omega, by have := e404; omega, by have := e408; omega, by have := e408; have := e404; omega, by have := e412; omega, by have := e416; omega, by have := e412; omega, by have := e412; omega, by have := e416; omega, by have := e416; omega, by rcases (show v400 = 1 ∨ v400 = 0 by omega) with q9 | q9; (exact Or.inl ⟨q9, by rw [e404]; exact X_k (or_l xh397 (by omega)) (by omega)⟩); (exact Or.inr ⟨q9, by rw [e416, e412]; exact F_k (or_r xh397 (by omega)) (by omega) (by omega)⟩), pr398, pr399⟩)
def fm_m7166_6v3 : Nat := 3941070043873280
/-- IslandHall$Parser.negation -/
theorem m7166_6v3 {B : eB} (d : Nat) (M0 : Mm) (p1 : Int) (x9_1 : Int) (x9_3 : Int) (x9_2 : Int) (x6_4 : Int) (x6_5 : Int) (x6_3 : Int) (T : Int → Int) (c0 : Cg) (hP0 : Pw M0) (l1 : 3 ≤ p1) (u1 : p1 ≤ 3) (ex9_1 : M0 9 1 = x9_1) (lx9_1 : 0 ≤ x9_1) (ux9_1 : x9_1 ≤ 500) (ex9_3 : M0 9 3 = x9_3) (lx9_3 : 0 ≤ x9_3) (ux9_3 : x9_3 ≤ 500) (ex9_2 : M0 9 2 = x9_2) (lx9_2 : 0 ≤ x9_2) (ux9_2 : x9_2 ≤ 500) (ex6_4 : M0 6 4 = x6_4) (lx6_4 : 0 ≤ x6_4) (ux6_4 : x6_4 ≤ 6) (ex6_5 : M0 6 5 = x6_5) (lx6_5 : (-1) ≤ x6_5) (ux6_5 : x6_5 ≤ 500) (ex6_3 : M0 6 3 = x6_3) (lx6_3 : (-1) ≤ x6_3) (ux6_3 : x6_3 ≤ 7) (rp0 : 0 ≤ x9_1 + (-1) * x9_2) (rp1 : 0 ≤ x9_2 + (-1) * x9_3) (rp2 : 0 ≤ x9_1 + (-1) * x9_3) (xp0 : Rch T x9_1 x6_3 c0 (1, p1 + 1, x9_3, 0)) (pp_TX : TXP T M0) (pp_TC : TCP T M0) : Ct B (d + 20) 166 [R 6, I p1] M0 (qI fun z M => Pw M ∧ Fr fm_m7166_6v3 M0 M ∧ 0 ≤ z ∧ z ≤ 1 ∧ 0 ≤ M 9 3 + (-1) * x9_3 ∧ 0 ≤ x9_1 + (-1) * (M 9 3) ∧ 0 ≤ x9_1 + (-1) * (M 9 2) ∧ 0 ≤ M 9 2 + (-1) * (M 9 3) ∧ 0 ≤ M 6 4 ∧ 0 ≤ M 6 5 + 1 ∧ (z = 1 → 0 ≤ M 6 4 + (-1) * x6_4) ∧ (z = 1 → 0 ≤ (-1) * (M 6 4) + x6_4) ∧ (z = 1 → 0 ≤ M 6 5 + (-1) * x6_5) ∧ (z = 1 → 0 ≤ (-1) * (M 6 5) + x6_5) ∧ ((z = 1 ∧ Rch T x9_1 x6_3 c0 (2, p1 + 1, M 9 3, 0)) ∨ (z = 0 ∧ Rch T x9_1 x6_3 c0 (3, 0, M 6 5, M 6 4))) ∧ (TXP T M) ∧ (TCP T M)) := by
  refine ct_of (d := d + 19) (k := 2) (L := [some (R 6), some (I p1), none, none]) rfl rfl rfl ?_
  have hF0 := Fr.rf fm_m7166_6v3 M0
  generalize hQ : (qI fun z M => Pw M ∧ Fr fm_m7166_6v3 M0 M ∧ 0 ≤ z ∧ z ≤ 1 ∧ 0 ≤ M 9 3 + (-1) * x9_3 ∧ 0 ≤ x9_1 + (-1) * (M 9 3) ∧ 0 ≤ x9_1 + (-1) * (M 9 2) ∧ 0 ≤ M 9 2 + (-1) * (M 9 3) ∧ 0 ≤ M 6 4 ∧ 0 ≤ M 6 5 + 1 ∧ (z = 1 → 0 ≤ M 6 4 + (-1) * x6_4) ∧ (z = 1 → 0 ≤ (-1) * (M 6 4) + x6_4) ∧ (z = 1 → 0 ≤ M 6 5 + (-1) * x6_5) ∧ (z = 1 → 0 ≤ (-1) * (M 6 5) + x6_5) ∧ ((z = 1 ∧ Rch T x9_1 x6_3 c0 (2, p1 + 1, M 9 3, 0)) ∨ (z = 0 ∧ Rch T x9_1 x6_3 c0 (3, 0, M 6 5, M 6 4))) ∧ (TXP T M) ∧ (TCP T M)) = Q
  refine wk_c1 r166_0 (wk_is2 r166_1 rfl ?_)
  have c2_1564 : ∀ (k1564 : Nat) (M1249 : Mm) (v1246 : Int) (v1252 : Int) (v1256 : Int), (6 - v1246).toNat = k1564 → Pw M1249 → Fr fm_m7166_6v3 M0 M1249 → M1249 9 3 = v1252 → M1249 9 2 = v1256 → M1249 9 1 = x9_1 → M1249 6 4 = x6_4 → M1249 6 5 = x6_5 → M1249 6 3 = x6_3 → 0 ≤ v1246 → v1246 ≤ 6 → 0 ≤ v1252 → v1252 ≤ 500 → 0 ≤ v1256 → v1256 ≤ 500 → (TXP T M1249) → (TCP T M1249) → 0 ≤ 1 * v1252 + (-1) * x9_3 → 0 ≤ 1 * x9_1 + (-1) * v1252 → 0 ≤ 1 * x9_1 + (-1) * v1256 → 0 ≤ 1 * v1256 + (-1) * v1252 → 0 ≤ (-1) * v1246 + v1252 + 0 → 0 ≤ (-1) * v1246 + v1256 + 0 → 0 ≤ (-1) * v1252 + v1246 + 500 → 0 ≤ (-1) * v1252 + v1256 + 0 → 0 ≤ (-1) * v1256 + v1246 + 500 → 0 ≤ (-1) * v1256 + v1252 + 500 → (Rch T x9_1 x6_3 c0 (1, p1 + 1, v1252, v1246)) → Wp B (d + 19) 166 2 [some (R 6), some (I p1), some (I v1246), none] [] M1249 Q := by
    refine lp_ind ?_
    intro k1564 ih1564 M1249 v1246 v1252 v1256 hk1564 hP1250 hF1251 e1255 e1259 e1260 e1261 e1262 e1263 h1247 h1248 h1253 h1254 h1257 h1258 pr1264 pr1265 h1266 h1267 h1268 h1269 h1270 h1271 h1272 h1273 h1274 h1275 ti1276
    refine wk_il2 r166_2 (wk_c2 r166_3 ?_)
    refine wk_icge r166_5 ⟨by omega, by omega⟩ (by decide) ?_ ?_
    · intro h1277
      refine wk_al0 r166_23 (wk_getfr r166_24 fd_6_0 (br_6_0 hP1250) (wk_c8 r166_27 (wk_cv2 r166_29 kc_9_239 rfl (m7239_9 _ M1249 4119 x9_1 v1252 T hP1250 (by decide) e1260 (by first | with_reducible assumption | omega) (by first | with_reducible assumption | omega) e1255 (by first | with_reducible assumption | omega) (by first | with_reducible assumption | omega) (by first | assumption | omega | (unfold stepok; omega)) pr1264 pr1265) (cqI ?_))))
      rintro v1283 M1278 ⟨hP1279, hQ1280, h1284, h1285, xh1282⟩
      obtain rfl := Fr.same hQ1280
      rw [show wix 4119 = 14 from rfl] at xh1282
      refine wk_ifeq r166_32 ⟨by omega, by omega⟩ ?_ ?_
      · intro h1286
        refine wk_al0 r166_41 (wk_getfr r166_42 fd_6_0 (br_6_0 hP1250) (wk_c2 r166_45 (wk_cv2 r166_47 kc_9_238 rfl (m7238_9 _ M1249 40 x9_1 v1252 T hP1250 (by decide) (by decide) e1260 (by first | with_reducible assumption | omega) (by first | with_reducible assumption | omega) e1255 (by first | with_reducible assumption | omega) (by first | with_reducible assumption | omega) pr1264 pr1265) (cqI ?_))))
        rintro v1292 M1287 ⟨hP1288, hQ1289, h1293, h1294, xh1291⟩
        obtain rfl := Fr.same hQ1289
        refine wk_ifeq r166_50 ⟨by omega, by omega⟩ ?_ ?_
        · intro h1295
          refine wk_al0 r166_61 (wk_il1 r166_62 ?_)
          refine wk_cv2 r166_63 kc_6_153 rfl (m7153_6v3 _ M1249 p1 x9_1 v1252 v1256 x6_4 x6_5 x6_3 T c0 v1246 hP1250 (by first | with_reducible assumption | omega) (by first | with_reducible assumption | omega) e1260 (by first | with_reducible assumption | omega) (by first | with_reducible assumption | omega) e1255 (by first | with_reducible assumption | omega) (by first | with_reducible assumption | omega) e1259 (by first | with_reducible assumption | omega) (by first | with_reducible assumption | omega) e1261 (by first | with_reducible assumption | omega) (by first | with_reducible assumption | omega) e1262 (by first | with_reducible assumption | omega) (by first | with_reducible assumption | omega) e1263 (by first | with_reducible assumption | omega) (by first | with_reducible assumption | omega) (by omega) (by omega) (by omega) (ti1276) (by omega) (by omega) pr1264 pr1265) (cqI ?_)
          rintro v1313 M1296 ⟨hP1297, hQ1298, h1314, h1315, h1300, h1301, h1302, h1303, h1304, h1305, h1306, h1307, h1308, h1309, xh1310, pr1311, pr1312⟩
          have hF1299 : Fr fm_m7166_6v3 M0 M1296 := hF1251.tr hQ1298 rfl
          obtain ⟨v1316, e1317⟩ : ∃ v, M1296 9 3 = v := ⟨_, rfl⟩
          have h1318 := (bf_9_3 hP1297).1; rw [e1317] at h1318
          have h1319 := (bf_9_3 hP1297).2; rw [e1317] at h1319
          obtain ⟨v1320, e1321⟩ : ∃ v, M1296 9 2 = v := ⟨_, rfl⟩
          have h1322 := (bf_9_2 hP1297).1; rw [e1321] at h1322
          have h1323 := (bf_9_2 hP1297).2; rw [e1321] at h1323
          obtain ⟨v1324, e1325⟩ : ∃ v, M1296 6 4 = v := ⟨_, rfl⟩
          have h1326 := (bf_6_4 hP1297).1; rw [e1325] at h1326
          have h1327 := (bf_6_4 hP1297).2; rw [e1325] at h1327
          obtain ⟨v1328, e1329⟩ : ∃ v, M1296 6 5 = v := ⟨_, rfl⟩
          have h1330 := (bf_6_5 hP1297).1; rw [e1329] at h1330
          have h1331 := (bf_6_5 hP1297).2; rw [e1329] at h1331
          refine wk_is3 r166_66 rfl (wk_il3 r166_67 ?_)
          refine wk_ifeq r166_68 ⟨by omega, by omega⟩ ?_ ?_
          · intro h1332
            refine wk_c1 r166_90 ?_
            subst hQ; exact wk_zret r166_91 (by decide) (⟨rfl, _, rfl, hP1297, hF1299, by omega, by omega, by have := e1317; omega, by have := e1317; omega, by have := e1321; omega, by have := e1321; have := e1317; omega, by have := e1325; omega, by have := e1329; omega, by omega, by omega, by omega, by omega, Or.inr ⟨by omega, by rw [e1329, e1325]; exact F_k (or_r xh1310 (by omega)) (by omega) (by omega)⟩, pr1311, pr1312⟩)
          · intro h1333
            refine wk_il2 r166_71 (wk_c1 r166_72 (wk_iandc 1 2 r166_73 ⟨rfl, by decide⟩ rfl ?_))
            refine wk_ifeq r166_74 ⟨by omega, by omega⟩ ?_ ?_
            · intro h1335
              refine wk_c1 r166_86 (wk_goto r166_87 ?_)
              subst hQ; exact wk_zret r166_91 (by decide) (⟨rfl, _, rfl, hP1297, hF1299, by omega, by omega, by have := e1317; omega, by have := e1317; omega, by have := e1321; omega, by have := e1321; have := e1317; omega, by have := e1325; omega, by have := e1329; omega, by have := e1325; omega, by have := e1325; omega, by have := e1329; omega, by have := e1329; omega, Or.inl ⟨by omega, by rw [e1317]; exact X_k (or_l xh1310 (by omega)) (by omega)⟩, pr1311, pr1312⟩)
            · intro h1336
              exfalso
              omega
        · intro h1337
          refine wk_al0 r166_53 (wk_il1 r166_54 ?_)
          refine wk_cv2 r166_55 kc_6_168 rfl (m7168_6v3 _ M1249 p1 x9_1 v1252 v1256 x6_4 x6_5 x6_3 T c0 hP1250 (by first | with_reducible assumption | omega) (by first | with_reducible assumption | omega) e1260 (by first | with_reducible assumption | omega) (by first | with_reducible assumption | omega) e1255 (by first | with_reducible assumption | omega) (by first | with_reducible assumption | omega) e1259 (by first | with_reducible assumption | omega) (by first | with_reducible assumption | omega) e1261 (by first | with_reducible assumption | omega) (by first | with_reducible assumption | omega) e1262 (by first | with_reducible assumption | omega) (by first | with_reducible assumption | omega) e1263 (by first | with_reducible assumption | omega) (by first | with_reducible assumption | omega) (by omega) (by omega) (by omega) (PX_p ti1276 (by omega)) pr1264 pr1265) (cqI ?_)
          rintro v1355 M1338 ⟨hP1339, hQ1340, h1356, h1357, h1342, h1343, h1344, h1345, h1346, h1347, h1348, h1349, h1350, h1351, xh1352, pr1353, pr1354⟩
          have hF1341 : Fr fm_m7166_6v3 M0 M1338 := hF1251.tr hQ1340 rfl
          obtain ⟨v1358, e1359⟩ : ∃ v, M1338 9 3 = v := ⟨_, rfl⟩
          have h1360 := (bf_9_3 hP1339).1; rw [e1359] at h1360
          have h1361 := (bf_9_3 hP1339).2; rw [e1359] at h1361
          obtain ⟨v1362, e1363⟩ : ∃ v, M1338 9 2 = v := ⟨_, rfl⟩
          have h1364 := (bf_9_2 hP1339).1; rw [e1363] at h1364
          have h1365 := (bf_9_2 hP1339).2; rw [e1363] at h1365
          obtain ⟨v1366, e1367⟩ : ∃ v, M1338 6 4 = v := ⟨_, rfl⟩
          have h1368 := (bf_6_4 hP1339).1; rw [e1367] at h1368
          have h1369 := (bf_6_4 hP1339).2; rw [e1367] at h1369
          obtain ⟨v1370, e1371⟩ : ∃ v, M1338 6 5 = v := ⟨_, rfl⟩
          have h1372 := (bf_6_5 hP1339).1; rw [e1371] at h1372
          have h1373 := (bf_6_5 hP1339).2; rw [e1371] at h1373
          refine wk_goto r166_58 ?_
          refine wk_is3 r166_66 rfl (wk_il3 r166_67 ?_)
          refine wk_ifeq r166_68 ⟨by omega, by omega⟩ ?_ ?_
          · intro h1374
            refine wk_c1 r166_90 ?_
            subst hQ; exact wk_zret r166_91 (by decide) (⟨rfl, _, rfl, hP1339, hF1341, by omega, by omega, by have := e1359; omega, by have := e1359; omega, by have := e1363; omega, by have := e1363; have := e1359; omega, by have := e1367; omega, by have := e1371; omega, by omega, by omega, by omega, by omega, Or.inr ⟨by omega, by rw [e1371, e1367]; exact F_k (or_r xh1352 (by omega)) (by omega) (by omega)⟩, pr1353, pr1354⟩)
          · intro h1375
            refine wk_il2 r166_71 (wk_c1 r166_72 (wk_iandc 1 2 r166_73 ⟨rfl, by decide⟩ rfl ?_))
            refine wk_ifeq r166_74 ⟨by omega, by omega⟩ ?_ ?_
            · intro h1377
              refine wk_c1 r166_86 (wk_goto r166_87 ?_)
              subst hQ; exact wk_zret r166_91 (by decide) (⟨rfl, _, rfl, hP1339, hF1341, by omega, by omega, by have := e1359; omega, by have := e1359; omega, by have := e1363; omega, by have := e1363; have := e1359; omega, by have := e1367; omega, by have := e1371; omega, by have := e1367; omega, by have := e1367; omega, by have := e1371; omega, by have := e1371; omega, Or.inl ⟨by omega, by rw [e1359]; exact X_k (or_l xh1352 (by omega)) (by omega)⟩, pr1353, pr1354⟩)
            · intro h1378
              exfalso
              omega
      · intro h1379
        refine wk_al0 r166_35 (wk_c1 r166_36 (wk_cv2 r166_37 kc_6_159 rfl (m7159_6 _ M1249 2 v1252 hP1250 (by decide) (by decide) e1255 (by first | with_reducible assumption | omega) (by first | with_reducible assumption | omega)) (cqI ?_)))
        rintro v1388 M1380 ⟨hP1381, hQ1382, h1389, h1390, h1384, h1385, h1386, h1387⟩
        have hF1383 : Fr fm_m7166_6v3 M0 M1380 := hF1251.tr hQ1382 rfl
        obtain ⟨v1391, e1392⟩ : ∃ v, M1380 6 4 = v := ⟨_, rfl⟩
        have h1393 := (bf_6_4 hP1381).1; rw [e1392] at h1393
        have h1394 := (bf_6_4 hP1381).2; rw [e1392] at h1394
        obtain ⟨v1395, e1396⟩ : ∃ v, M1380 6 5 = v := ⟨_, rfl⟩
        have h1397 := (bf_6_5 hP1381).1; rw [e1396] at h1397
        have h1398 := (bf_6_5 hP1381).2; rw [e1396] at h1398
        subst hQ; exact wk_zret r166_40 ⟨by omega, by omega⟩ (⟨rfl, _, rfl, hP1381, hF1383, by omega, by omega, by have := ((hQ1382.at g_9_3 rfl).trans e1255); omega, by have := ((hQ1382.at g_9_3 rfl).trans e1255); omega, by have := ((hQ1382.at g_9_2 rfl).trans e1259); omega, by have := ((hQ1382.at g_9_2 rfl).trans e1259); have := ((hQ1382.at g_9_3 rfl).trans e1255); omega, by have := e1392; omega, by have := e1396; omega, by omega, by omega, by omega, by omega, Or.inr ⟨by omega, by rw [e1396, e1392]; exact O_6 ti1276 (by omega) (by omega) (by omega) (by omega)⟩, (TXP_sm (Sm.fr hQ1382 rfl) pr1264), (TCP_sm (Sm.fr hQ1382 rfl) pr1265)⟩)
    · intro h1399
      refine wk_al0 r166_8 (wk_c8 r166_9 (wk_cv2 r166_11 kc_6_175 rfl (m7175_6 _ M1249 4119 x9_1 v1252 v1256 T hP1250 (by decide) e1260 (by first | with_reducible assumption | omega) (by first | with_reducible assumption | omega) e1255 (by first | with_reducible assumption | omega) (by first | with_reducible assumption | omega) e1259 (by first | with_reducible assumption | omega) (by first | with_reducible assumption | omega) (by omega) (by omega) (by omega) (by first | assumption | omega | (unfold stepok; omega)) pr1264 pr1265) (cqI ?_)))
      rintro v1412 M1400 ⟨hP1401, hQ1402, h1413, h1414, h1404, h1405, h1406, h1407, h1408, xh1409, pr1410, pr1411⟩
      have hF1403 : Fr fm_m7166_6v3 M0 M1400 := hF1251.tr hQ1402 rfl
      obtain ⟨v1415, e1416⟩ : ∃ v, M1400 9 3 = v := ⟨_, rfl⟩
      have h1417 := (bf_9_3 hP1401).1; rw [e1416] at h1417
      have h1418 := (bf_9_3 hP1401).2; rw [e1416] at h1418
      obtain ⟨v1419, e1420⟩ : ∃ v, M1400 9 2 = v := ⟨_, rfl⟩
      have h1421 := (bf_9_2 hP1401).1; rw [e1420] at h1421
      have h1422 := (bf_9_2 hP1401).2; rw [e1420] at h1422
      rw [show wix 4119 = 14 from rfl] at xh1409
      refine wk_ifeq r166_14 ⟨by omega, by omega⟩ ?_ ?_
      · intro h1423
        obtain rfl : v1252 = v1415 := by omega
        obtain rfl : v1256 = v1419 := by omega
        refine wk_al0 r166_23 (wk_getfr r166_24 fd_6_0 (br_6_0 hP1401) (wk_c8 r166_27 (wk_cv2 r166_29 kc_9_239 rfl (m7239_9 _ M1400 4119 x9_1 v1252 T hP1401 (by decide) ((hQ1402.at g_9_1 rfl).trans e1260) (by first | with_reducible assumption | omega) (by first | with_reducible assumption | omega) e1416 (by first | with_reducible assumption | omega) (by first | with_reducible assumption | omega) (by first | assumption | omega | (unfold stepok; omega)) pr1410 pr1411) (cqI ?_))))
        rintro v1429 M1424 ⟨hP1425, hQ1426, h1430, h1431, xh1428⟩
        obtain rfl := Fr.same hQ1426
        rw [show wix 4119 = 14 from rfl] at xh1428
        refine wk_ifeq r166_32 ⟨by omega, by omega⟩ ?_ ?_
        · intro h1432
          refine wk_al0 r166_41 (wk_getfr r166_42 fd_6_0 (br_6_0 hP1401) (wk_c2 r166_45 (wk_cv2 r166_47 kc_9_238 rfl (m7238_9 _ M1400 40 x9_1 v1252 T hP1401 (by decide) (by decide) ((hQ1402.at g_9_1 rfl).trans e1260) (by first | with_reducible assumption | omega) (by first | with_reducible assumption | omega) e1416 (by first | with_reducible assumption | omega) (by first | with_reducible assumption | omega) pr1410 pr1411) (cqI ?_))))
          rintro v1438 M1433 ⟨hP1434, hQ1435, h1439, h1440, xh1437⟩
          obtain rfl := Fr.same hQ1435
          refine wk_ifeq r166_50 ⟨by omega, by omega⟩ ?_ ?_
          · intro h1441
            refine wk_al0 r166_61 (wk_il1 r166_62 ?_)
            refine wk_cv2 r166_63 kc_6_153 rfl (m7153_6v3 _ M1400 p1 x9_1 v1252 v1256 x6_4 x6_5 x6_3 T c0 v1246 hP1401 (by first | with_reducible assumption | omega) (by first | with_reducible assumption | omega) ((hQ1402.at g_9_1 rfl).trans e1260) (by first | with_reducible assumption | omega) (by first | with_reducible assumption | omega) e1416 (by first | with_reducible assumption | omega) (by first | with_reducible assumption | omega) e1420 (by first | with_reducible assumption | omega) (by first | with_reducible assumption | omega) ((hQ1402.at g_6_4 rfl).trans e1261) (by first | with_reducible assumption | omega) (by first | with_reducible assumption | omega) ((hQ1402.at g_6_5 rfl).trans e1262) (by first | with_reducible assumption | omega) (by first | with_reducible assumption | omega) ((hQ1402.at g_6_3 rfl).trans e1263) (by first | with_reducible assumption | omega) (by first | with_reducible assumption | omega) (by omega) (by omega) (by omega) (ti1276) (by omega) (by omega) pr1410 pr1411) (cqI ?_)
            rintro v1459 M1442 ⟨hP1443, hQ1444, h1460, h1461, h1446, h1447, h1448, h1449, h1450, h1451, h1452, h1453, h1454, h1455, xh1456, pr1457, pr1458⟩
            have hF1445 : Fr fm_m7166_6v3 M0 M1442 := hF1403.tr hQ1444 rfl
            obtain ⟨v1462, e1463⟩ : ∃ v, M1442 9 3 = v := ⟨_, rfl⟩
            have h1464 := (bf_9_3 hP1443).1; rw [e1463] at h1464
            have h1465 := (bf_9_3 hP1443).2; rw [e1463] at h1465
            obtain ⟨v1466, e1467⟩ : ∃ v, M1442 9 2 = v := ⟨_, rfl⟩
            have h1468 := (bf_9_2 hP1443).1; rw [e1467] at h1468
            have h1469 := (bf_9_2 hP1443).2; rw [e1467] at h1469
            obtain ⟨v1470, e1471⟩ : ∃ v, M1442 6 4 = v := ⟨_, rfl⟩
            have h1472 := (bf_6_4 hP1443).1; rw [e1471] at h1472
            have h1473 := (bf_6_4 hP1443).2; rw [e1471] at h1473
            obtain ⟨v1474, e1475⟩ : ∃ v, M1442 6 5 = v := ⟨_, rfl⟩
            have h1476 := (bf_6_5 hP1443).1; rw [e1475] at h1476
            have h1477 := (bf_6_5 hP1443).2; rw [e1475] at h1477
            refine wk_is3 r166_66 rfl (wk_il3 r166_67 ?_)
            refine wk_ifeq r166_68 ⟨by omega, by omega⟩ ?_ ?_
            · intro h1478
              refine wk_c1 r166_90 ?_
              subst hQ; exact wk_zret r166_91 (by decide) (⟨rfl, _, rfl, hP1443, hF1445, by omega, by omega, by have := e1463; omega, by have := e1463; omega, by have := e1467; omega, by have := e1467; have := e1463; omega, by have := e1471; omega, by have := e1475; omega, by omega, by omega, by omega, by omega, Or.inr ⟨by omega, by rw [e1475, e1471]; exact F_k (or_r xh1456 (by omega)) (by omega) (by omega)⟩, pr1457, pr1458⟩)
            · intro h1479
              refine wk_il2 r166_71 (wk_c1 r166_72 (wk_iandc 1 2 r166_73 ⟨rfl, by decide⟩ rfl ?_))
              refine wk_ifeq r166_74 ⟨by omega, by omega⟩ ?_ ?_
              · intro h1481
                refine wk_c1 r166_86 (wk_goto r166_87 ?_)
                subst hQ; exact wk_zret r166_91 (by decide) (⟨rfl, _, rfl, hP1443, hF1445, by omega, by omega, by have := e1463; omega, by have := e1463; omega, by have := e1467; omega, by have := e1467; have := e1463; omega, by have := e1471; omega, by have := e1475; omega, by have := e1471; omega, by have := e1471; omega, by have := e1475; omega, by have := e1475; omega, Or.inl ⟨by omega, by rw [e1463]; exact X_k (or_l xh1456 (by omega)) (by omega)⟩, pr1457, pr1458⟩)
              · intro h1482
                refine wk_al0 r166_77 (wk_c1 r166_78 (wk_c1 r166_79 (wk_cv3 r166_80 kc_6_172 rfl (m7172_6 _ M1442 1 0 hP1443 (by decide) (by decide) (by decide) (by decide) (by first | assumption | omega | (unfold stepok; omega))) (cqI ?_))))
                rintro v1487 M1483 ⟨hP1484, hQ1485, h1488, h1489⟩
                have hF1486 : Fr fm_m7166_6v3 M0 M1483 := hF1445.tr hQ1485 rfl
                refine wk_ifeq r166_83 ⟨by omega, by omega⟩ ?_ ?_
                · intro h1490
                  exfalso
                  omega
                · intro h1491
                  refine wk_c1 r166_86 (wk_goto r166_87 ?_)
                  subst hQ; exact wk_zret r166_91 (by decide) (⟨rfl, _, rfl, hP1484, hF1486, by omega, by omega, by have := ((hQ1485.at g_9_3 rfl).trans e1463); omega, by have := ((hQ1485.at g_9_3 rfl).trans e1463); omega, by have := ((hQ1485.at g_9_2 rfl).trans e1467); omega, by have := ((hQ1485.at g_9_2 rfl).trans e1467); have := ((hQ1485.at g_9_3 rfl).trans e1463); omega, by have := ((hQ1485.at g_6_4 rfl).trans e1471); omega, by have := ((hQ1485.at g_6_5 rfl).trans e1475); omega, by have := ((hQ1485.at g_6_4 rfl).trans e1471); omega, by have := ((hQ1485.at g_6_4 rfl).trans e1471); omega, by have := ((hQ1485.at g_6_5 rfl).trans e1475); omega, by have := ((hQ1485.at g_6_5 rfl).trans e1475); omega, Or.inl ⟨by omega, by rw [((hQ1485.at g_9_3 rfl).trans e1463)]; exact X_k (or_l xh1456 (by omega)) (by omega)⟩, (TXP_sm (Sm.fr hQ1485 rfl) pr1457), (TCP_sm (Sm.fr hQ1485 rfl) pr1458)⟩)
          · intro h1492
            refine wk_al0 r166_53 (wk_il1 r166_54 ?_)
            refine wk_cv2 r166_55 kc_6_168 rfl (m7168_6v3 _ M1400 p1 x9_1 v1252 v1256 x6_4 x6_5 x6_3 T c0 hP1401 (by first | with_reducible assumption | omega) (by first | with_reducible assumption | omega) ((hQ1402.at g_9_1 rfl).trans e1260) (by first | with_reducible assumption | omega) (by first | with_reducible assumption | omega) e1416 (by first | with_reducible assumption | omega) (by first | with_reducible assumption | omega) e1420 (by first | with_reducible assumption | omega) (by first | with_reducible assumption | omega) ((hQ1402.at g_6_4 rfl).trans e1261) (by first | with_reducible assumption | omega) (by first | with_reducible assumption | omega) ((hQ1402.at g_6_5 rfl).trans e1262) (by first | with_reducible assumption | omega) (by first | with_reducible assumption | omega) ((hQ1402.at g_6_3 rfl).trans e1263) (by first | with_reducible assumption | omega) (by first | with_reducible assumption | omega) (by omega) (by omega) (by omega) (PX_p ti1276 (by omega)) pr1410 pr1411) (cqI ?_)
            rintro v1510 M1493 ⟨hP1494, hQ1495, h1511, h1512, h1497, h1498, h1499, h1500, h1501, h1502, h1503, h1504, h1505, h1506, xh1507, pr1508, pr1509⟩
            have hF1496 : Fr fm_m7166_6v3 M0 M1493 := hF1403.tr hQ1495 rfl
            obtain ⟨v1513, e1514⟩ : ∃ v, M1493 9 3 = v := ⟨_, rfl⟩
            have h1515 := (bf_9_3 hP1494).1; rw [e1514] at h1515
            have h1516 := (bf_9_3 hP1494).2; rw [e1514] at h1516
            obtain ⟨v1517, e1518⟩ : ∃ v, M1493 9 2 = v := ⟨_, rfl⟩
            have h1519 := (bf_9_2 hP1494).1; rw [e1518] at h1519
            have h1520 := (bf_9_2 hP1494).2; rw [e1518] at h1520
            obtain ⟨v1521, e1522⟩ : ∃ v, M1493 6 4 = v := ⟨_, rfl⟩
            have h1523 := (bf_6_4 hP1494).1; rw [e1522] at h1523
            have h1524 := (bf_6_4 hP1494).2; rw [e1522] at h1524
            obtain ⟨v1525, e1526⟩ : ∃ v, M1493 6 5 = v := ⟨_, rfl⟩
            have h1527 := (bf_6_5 hP1494).1; rw [e1526] at h1527
            have h1528 := (bf_6_5 hP1494).2; rw [e1526] at h1528
            refine wk_goto r166_58 ?_
            refine wk_is3 r166_66 rfl (wk_il3 r166_67 ?_)
            refine wk_ifeq r166_68 ⟨by omega, by omega⟩ ?_ ?_
            · intro h1529
              refine wk_c1 r166_90 ?_
              subst hQ; exact wk_zret r166_91 (by decide) (⟨rfl, _, rfl, hP1494, hF1496, by omega, by omega, by have := e1514; omega, by have := e1514; omega, by have := e1518; omega, by have := e1518; have := e1514; omega, by have := e1522; omega, by have := e1526; omega, by omega, by omega, by omega, by omega, Or.inr ⟨by omega, by rw [e1526, e1522]; exact F_k (or_r xh1507 (by omega)) (by omega) (by omega)⟩, pr1508, pr1509⟩)
            · intro h1530
              refine wk_il2 r166_71 (wk_c1 r166_72 (wk_iandc 1 2 r166_73 ⟨rfl, by decide⟩ rfl ?_))
              refine wk_ifeq r166_74 ⟨by omega, by omega⟩ ?_ ?_
              · intro h1532
                refine wk_c1 r166_86 (wk_goto r166_87 ?_)
                subst hQ; exact wk_zret r166_91 (by decide) (⟨rfl, _, rfl, hP1494, hF1496, by omega, by omega, by have := e1514; omega, by have := e1514; omega, by have := e1518; omega, by have := e1518; have := e1514; omega, by have := e1522; omega, by have := e1526; omega, by have := e1522; omega, by have := e1522; omega, by have := e1526; omega, by have := e1526; omega, Or.inl ⟨by omega, by rw [e1514]; exact X_k (or_l xh1507 (by omega)) (by omega)⟩, pr1508, pr1509⟩)
              · intro h1533
                refine wk_al0 r166_77 (wk_c1 r166_78 (wk_c1 r166_79 (wk_cv3 r166_80 kc_6_172 rfl (m7172_6 _ M1493 1 0 hP1494 (by decide) (by decide) (by decide) (by decide) (by first | assumption | omega | (unfold stepok; omega))) (cqI ?_))))
                rintro v1538 M1534 ⟨hP1535, hQ1536, h1539, h1540⟩
                have hF1537 : Fr fm_m7166_6v3 M0 M1534 := hF1496.tr hQ1536 rfl
                refine wk_ifeq r166_83 ⟨by omega, by omega⟩ ?_ ?_
                · intro h1541
                  exfalso
                  omega
                · intro h1542
                  refine wk_c1 r166_86 (wk_goto r166_87 ?_)
                  subst hQ; exact wk_zret r166_91 (by decide) (⟨rfl, _, rfl, hP1535, hF1537, by omega, by omega, by have := ((hQ1536.at g_9_3 rfl).trans e1514); omega, by have := ((hQ1536.at g_9_3 rfl).trans e1514); omega, by have := ((hQ1536.at g_9_2 rfl).trans e1518); omega, by have := ((hQ1536.at g_9_2 rfl).trans e1518); have := ((hQ1536.at g_9_3 rfl).trans e1514); omega, by have := ((hQ1536.at g_6_4 rfl).trans e1522); omega, by have := ((hQ1536.at g_6_5 rfl).trans e1526); omega, by have := ((hQ1536.at g_6_4 rfl).trans e1522); omega, by have := ((hQ1536.at g_6_4 rfl).trans e1522); omega, by have := ((hQ1536.at g_6_5 rfl).trans e1526); omega, by have := ((hQ1536.at g_6_5 rfl).trans e1526); omega, Or.inl ⟨by omega, by rw [((hQ1536.at g_9_3 rfl).trans e1514)]; exact X_k (or_l xh1507 (by omega)) (by omega)⟩, (TXP_sm (Sm.fr hQ1536 rfl) pr1508), (TCP_sm (Sm.fr hQ1536 rfl) pr1509)⟩)
        · intro h1543
          refine wk_al0 r166_35 (wk_c1 r166_36 (wk_cv2 r166_37 kc_6_159 rfl (m7159_6 _ M1400 2 v1252 hP1401 (by decide) (by decide) e1416 (by first | with_reducible assumption | omega) (by first | with_reducible assumption | omega)) (cqI ?_)))
          rintro v1552 M1544 ⟨hP1545, hQ1546, h1553, h1554, h1548, h1549, h1550, h1551⟩
          have hF1547 : Fr fm_m7166_6v3 M0 M1544 := hF1403.tr hQ1546 rfl
          obtain ⟨v1555, e1556⟩ : ∃ v, M1544 6 4 = v := ⟨_, rfl⟩
          have h1557 := (bf_6_4 hP1545).1; rw [e1556] at h1557
          have h1558 := (bf_6_4 hP1545).2; rw [e1556] at h1558
          obtain ⟨v1559, e1560⟩ : ∃ v, M1544 6 5 = v := ⟨_, rfl⟩
          have h1561 := (bf_6_5 hP1545).1; rw [e1560] at h1561
          have h1562 := (bf_6_5 hP1545).2; rw [e1560] at h1562
          subst hQ; exact wk_zret r166_40 ⟨by omega, by omega⟩ (⟨rfl, _, rfl, hP1545, hF1547, by omega, by omega, by have := ((hQ1546.at g_9_3 rfl).trans e1416); omega, by have := ((hQ1546.at g_9_3 rfl).trans e1416); omega, by have := ((hQ1546.at g_9_2 rfl).trans e1420); omega, by have := ((hQ1546.at g_9_2 rfl).trans e1420); have := ((hQ1546.at g_9_3 rfl).trans e1416); omega, by have := e1556; omega, by have := e1560; omega, by omega, by omega, by omega, by omega, Or.inr ⟨by omega, by rw [e1560, e1556]; exact O_6 ti1276 (by omega) (by omega) (by omega) (by omega)⟩, (TXP_sm (Sm.fr hQ1546 rfl) pr1410), (TCP_sm (Sm.fr hQ1546 rfl) pr1411)⟩)
      · intro h1563
        refine wk_inc2 r166_17 rfl (wk_goto r166_20 ?_)
        exact wp_fg (le_s (le_s (le_s (le_s le_0)))) (ih1564 (6 - (v1246 + 1)).toNat (by omega) M1400 (v1246 + 1) v1415 v1419 rfl hP1401 hF1403 e1416 e1420 ((hQ1402.at g_9_1 rfl).trans e1260) ((hQ1402.at g_6_4 rfl).trans e1261) ((hQ1402.at g_6_5 rfl).trans e1262) ((hQ1402.at g_6_3 rfl).trans e1263) (by first | with_reducible assumption | omega) (by first | with_reducible assumption | omega) (by first | with_reducible assumption | omega) (by first | with_reducible assumption | omega) (by first | with_reducible assumption | omega) (by first | with_reducible assumption | omega) pr1410 pr1411 (by first | with_reducible assumption | omega) (by first | with_reducible assumption | omega) (by first | with_reducible assumption | omega) (by first | with_reducible assumption | omega) (by first | with_reducible assumption | omega) (by first | with_reducible assumption | omega) (by first | with_reducible assumption | omega) (by first | with_reducible assumption | omega) (by first | with_reducible assumption | omega) (by first | with_reducible assumption | omega) (O_n ti1276 (by omega) (by omega) (by omega) (by omega)))
  exact wp_fg (le_s (le_s (le_s (le_s le_0)))) (c2_1564 _ M0 0 x9_3 x9_2 rfl hP0 hF0 ex9_3 ex9_2 ex9_1 ex6_4 ex6_5 ex6_3 (by first | with_reducible assumption | omega) (by first | with_reducible assumption | omega) (by first | with_reducible assumption | omega) (by first | with_reducible assumption | omega) (by first | with_reducible assumption | omega) (by first | with_reducible assumption | omega) pp_TX pp_TC (by first | with_reducible assumption | omega) (by first | with_reducible assumption | omega) (by first | with_reducible assumption | omega) (by first | with_reducible assumption | omega) (by first | with_reducible assumption | omega) (by first | with_reducible assumption | omega) (by first | with_reducible assumption | omega) (by first | with_reducible assumption | omega) (by first | with_reducible assumption | omega) (by first | with_reducible assumption | omega) (xp0))
