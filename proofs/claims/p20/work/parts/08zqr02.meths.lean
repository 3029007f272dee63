/-! ===== written by program (wip/layer4) ===== -/
def fm_m7156_6 : Nat := 4079608508973056
set_option maxHeartbeats 20000000 in
/-- IslandHall$Parser.clause -/
theorem m7156_6 {B : eB} (d : Nat) (M0 : Mm) (x9_1 : Int) (x9_3 : Int) (x9_2 : Int) (x6_4 : Int) (x6_5 : Int) (x6_3 : Int) (x7_2 : Int) (x7_3 : Int) (x7_5 : Int) (x7_6 : Int) (T : Int → Int) (i0 : Ig) (hP0 : Pw M0) (ex9_1 : M0 9 1 = x9_1) (lx9_1 : 0 ≤ x9_1) (ux9_1 : x9_1 ≤ 500) (ex9_3 : M0 9 3 = x9_3) (lx9_3 : 0 ≤ x9_3) (ux9_3 : x9_3 ≤ 500) (ex9_2 : M0 9 2 = x9_2) (lx9_2 : 0 ≤ x9_2) (ux9_2 : x9_2 ≤ 500) (ex6_4 : M0 6 4 = x6_4) (lx6_4 : 0 ≤ x6_4) (ux6_4 : x6_4 ≤ 6) (ex6_5 : M0 6 5 = x6_5) (lx6_5 : (-1) ≤ x6_5) (ux6_5 : x6_5 ≤ 500) (ex6_3 : M0 6 3 = x6_3) (lx6_3 : (-1) ≤ x6_3) (ux6_3 : x6_3 ≤ 7) (ex7_2 : M0 7 2 = x7_2) (lx7_2 : (-1) ≤ x7_2) (ux7_2 : x7_2 ≤ 4) (ex7_3 : M0 7 3 = x7_3) (lx7_3 : (-1) ≤ x7_3) (ux7_3 : x7_3 ≤ 6) (ex7_5 : M0 7 5 = x7_5) (lx7_5 : 0 ≤ x7_5) (ux7_5 : x7_5 ≤ 1) (ex7_6 : M0 7 6 = x7_6) (lx7_6 : 0 ≤ x7_6) (ux7_6 : x7_6 ≤ 1) (rp0 : 0 ≤ x9_1 + (-1) * x9_2) (rp1 : 0 ≤ x9_2 + (-1) * x9_3) (rp2 : 0 ≤ x9_1 + (-1) * x9_3) (xp0 : Ri T x9_1 x6_3 i0 (0, x9_3, 0, 0, (x7_2, x7_3, x7_5, x7_6, nrI (fun k => M0 8 k)))) (xp1 : tt T x9_1 x9_3 ≠ 0) (xp2 : ∀ k : Int, 0 ≤ k → k < 7 → 1 ≤ M0 8 k) (pp_TX : TXP T M0) (pp_TC : TCP T M0) : Ct B (d + 41) 156 [R 6] M0 (qI fun z M => Pw M ∧ Fr fm_m7156_6 M0 M ∧ 0 ≤ z ∧ z ≤ 1 ∧ 0 ≤ M 9 3 + (-1) * x9_3 ∧ 0 ≤ x9_1 + (-1) * (M 9 3) ∧ 0 ≤ x9_1 + (-1) * (M 9 2) ∧ 0 ≤ M 9 2 + (-1) * (M 9 3) ∧ 0 ≤ M 6 4 ∧ 0 ≤ M 6 5 + 1 ∧ 0 ≤ M 7 2 + 1 ∧ 0 ≤ M 7 3 + 1 ∧ 0 ≤ M 7 5 + 0 ∧ 0 ≤ M 7 6 + 0 ∧ (z = 1 → 0 ≤ M 6 4 + (-1) * x6_4) ∧ (z = 1 → 0 ≤ (-1) * (M 6 4) + x6_4) ∧ (z = 1 → 0 ≤ M 6 5 + (-1) * x6_5) ∧ (z = 1 → 0 ≤ (-1) * (M 6 5) + x6_5) ∧ (∀ k : Int, 0 ≤ k → k < 7 → 1 ≤ M 8 k) ∧ ((z = 1 ∧ Ri T x9_1 x6_3 i0 (5, M 9 3, 0, 0, (M 7 2, M 7 3, M 7 5, M 7 6, nrI (fun k => M 8 k)))) ∨ (z = 0 ∧ Ri T x9_1 x6_3 i0 (fI (M 6 5) (M 6 4)))) ∧ (TXP T M) ∧ (TCP T M)) := by
  refine ct_of (d := d + 40) (k := 0) (L := [some (R 6)]) rfl rfl rfl ?_
  have hF0 := Fr.rf fm_m7156_6 M0
  generalize hQ : (qI fun z M => Pw M ∧ Fr fm_m7156_6 M0 M ∧ 0 ≤ z ∧ z ≤ 1 ∧ 0 ≤ M 9 3 + (-1) * x9_3 ∧ 0 ≤ x9_1 + (-1) * (M 9 3) ∧ 0 ≤ x9_1 + (-1) * (M 9 2) ∧ 0 ≤ M 9 2 + (-1) * (M 9 3) ∧ 0 ≤ M 6 4 ∧ 0 ≤ M 6 5 + 1 ∧ 0 ≤ M 7 2 + 1 ∧ 0 ≤ M 7 3 + 1 ∧ 0 ≤ M 7 5 + 0 ∧ 0 ≤ M 7 6 + 0 ∧ (z = 1 → 0 ≤ M 6 4 + (-1) * x6_4) ∧ (z = 1 → 0 ≤ (-1) * (M 6 4) + x6_4) ∧ (z = 1 → 0 ≤ M 6 5 + (-1) * x6_5) ∧ (z = 1 → 0 ≤ (-1) * (M 6 5) + x6_5) ∧ (∀ k : Int, 0 ≤ k → k < 7 → 1 ≤ M 8 k) ∧ ((z = 1 ∧ Ri T x9_1 x6_3 i0 (5, M 9 3, 0, 0, (M 7 2, M 7 3, M 7 5, M 7 6, nrI (fun k => M 8 k)))) ∨ (z = 0 ∧ Ri T x9_1 x6_3 i0 (fI (M 6 5) (M 6 4)))) ∧ (TXP T M) ∧ (TCP T M)) = Q
  obtain ⟨u1, hu2⟩ : ∃ u : Int → Int, ∀ k, M0 8 k = u k := ⟨fun k => M0 8 k, fun k => rfl⟩
  have e8 : nrI (fun k => M0 8 k) = nrI u1 := nr_eq (fun k _ _ => hu2 k)
  rw [e8] at xp0
  have dm0 : ∀ k : Int, 0 ≤ k → k < 7 → 1 ≤ u1 k := fun k a b => by rw [← hu2 k]; exact xp2 k a b
  refine wk_al0 r156_0 (wk_c8 r156_1 (wk_cv2 r156_3 kc_6_175 rfl (m7175_6 _ M0 4120 x9_1 x9_3 x9_2 T hP0 (by decide) ex9_1 (by first | with_reducible assumption | omega) (by first | with_reducible assumption | omega) ex9_3 (by first | with_reducible assumption | omega) (by first | with_reducible assumption | omega) ex9_2 (by first | with_reducible assumption | omega) (by first | with_reducible assumption | omega) (by omega) (by omega) (by omega) (by first | assumption | omega | (unfold stepok; omega)) pp_TX pp_TC) (cqI ?_)))
  rintro v15 M3 ⟨hP4, hQ5, h16, h17, h7, h8, h9, h10, h11, xh12, pr13, pr14⟩
  have hF6 : Fr fm_m7156_6 M0 M3 := hF0.tr hQ5 rfl
  obtain ⟨v18, e19⟩ : ∃ v, M3 9 3 = v := ⟨_, rfl⟩
  have h20 := (bf_9_3 hP4).1; rw [e19] at h20
  have h21 := (bf_9_3 hP4).2; rw [e19] at h21
  obtain ⟨v22, e23⟩ : ∃ v, M3 9 2 = v := ⟨_, rfl⟩
  have h24 := (bf_9_2 hP4).1; rw [e23] at h24
  have h25 := (bf_9_2 hP4).2; rw [e23] at h25
  rw [show wix 4120 = 6 from rfl] at xh12
  refine wk_ifeq r156_6 ⟨by omega, by omega⟩ ?_ ?_
  · intro h26
    clear h11
    obtain rfl : x9_3 = v18 := by omega
    obtain rfl : x9_2 = v22 := by omega
    refine wk_al0 r156_14 (wk_c8 r156_15 (wk_cv2 r156_17 kc_6_175 rfl (m7175_6 _ M3 4121 x9_1 x9_3 x9_2 T hP4 (by decide) ((hQ5.at g_9_1 rfl).trans ex9_1) (by first | with_reducible assumption | omega) (by first | with_reducible assumption | omega) e19 (by first | with_reducible assumption | omega) (by first | with_reducible assumption | omega) e23 (by first | with_reducible assumption | omega) (by first | with_reducible assumption | omega) (by omega) (by omega) (by omega) (by first | assumption | omega | (unfold stepok; omega)) pr13 pr14) (cqI ?_)))
    rintro v39 M27 ⟨hP28, hQ29, h40, h41, h31, h32, h33, h34, h35, xh36, pr37, pr38⟩
    have hF30 : Fr fm_m7156_6 M0 M27 := hF6.tr hQ29 rfl
    obtain ⟨v42, e43⟩ : ∃ v, M27 9 3 = v := ⟨_, rfl⟩
    have h44 := (bf_9_3 hP28).1; rw [e43] at h44
    have h45 := (bf_9_3 hP28).2; rw [e43] at h45
    obtain ⟨v46, e47⟩ : ∃ v, M27 9 2 = v := ⟨_, rfl⟩
    have h48 := (bf_9_2 hP28).1; rw [e47] at h48
    have h49 := (bf_9_2 hP28).2; rw [e47] at h49
    rw [show wix 4121 = 9 from rfl] at xh36
    refine wk_ifeq r156_20 ⟨by omega, by omega⟩ ?_ ?_
    · intro h50
      clear h35
      obtain rfl : x9_3 = v42 := by omega
      obtain rfl : x9_2 = v46 := by omega
      refine wk_al0 r156_28 (wk_c8 r156_29 (wk_cv2 r156_31 kc_6_175 rfl (m7175_6 _ M27 4122 x9_1 x9_3 x9_2 T hP28 (by decide) ((hQ29.at g_9_1 rfl).trans ((hQ5.at g_9_1 rfl).trans ex9_1)) (by first | with_reducible assumption | omega) (by first | with_reducible assumption | omega) e43 (by first | with_reducible assumption | omega) (by first | with_reducible assumption | omega) e47 (by first | with_reducible assumption | omega) (by first | with_reducible assumption | omega) (by omega) (by omega) (by omega) (by first | assumption | omega | (unfold stepok; omega)) pr37 pr38) (cqI ?_)))
      rintro v63 M51 ⟨hP52, hQ53, h64, h65, h55, h56, h57, h58, h59, xh60, pr61, pr62⟩
      have hF54 : Fr fm_m7156_6 M0 M51 := hF30.tr hQ53 rfl
      obtain ⟨v66, e67⟩ : ∃ v, M51 9 3 = v := ⟨_, rfl⟩
      have h68 := (bf_9_3 hP52).1; rw [e67] at h68
      have h69 := (bf_9_3 hP52).2; rw [e67] at h69
      obtain ⟨v70, e71⟩ : ∃ v, M51 9 2 = v := ⟨_, rfl⟩
      have h72 := (bf_9_2 hP52).1; rw [e71] at h72
      have h73 := (bf_9_2 hP52).2; rw [e71] at h73
      rw [show wix 4122 = 11 from rfl] at xh60
      refine wk_ifeq r156_34 ⟨by omega, by omega⟩ ?_ ?_
      · intro h74
        clear h59
        obtain rfl : x9_3 = v66 := by omega
        obtain rfl : x9_2 = v70 := by omega
        refine wk_al0 r156_60 (wk_c8 r156_61 (wk_cv2 r156_63 kc_6_175 rfl (m7175_6 _ M51 4123 x9_1 x9_3 x9_2 T hP52 (by decide) ((hQ53.at g_9_1 rfl).trans ((hQ29.at g_9_1 rfl).trans ((hQ5.at g_9_1 rfl).trans ex9_1))) (by first | with_reducible assumption | omega) (by first | with_reducible assumption | omega) e67 (by first | with_reducible assumption | omega) (by first | with_reducible assumption | omega) e71 (by first | with_reducible assumption | omega) (by first | with_reducible assumption | omega) (by omega) (by omega) (by omega) (by first | assumption | omega | (unfold stepok; omega)) pr61 pr62) (cqI ?_)))
        rintro v87 M75 ⟨hP76, hQ77, h88, h89, h79, h80, h81, h82, h83, xh84, pr85, pr86⟩
        have hF78 : Fr fm_m7156_6 M0 M75 := hF54.tr hQ77 rfl
        obtain ⟨v90, e91⟩ : ∃ v, M75 9 3 = v := ⟨_, rfl⟩
        have h92 := (bf_9_3 hP76).1; rw [e91] at h92
        have h93 := (bf_9_3 hP76).2; rw [e91] at h93
        obtain ⟨v94, e95⟩ : ∃ v, M75 9 2 = v := ⟨_, rfl⟩
        have h96 := (bf_9_2 hP76).1; rw [e95] at h96
        have h97 := (bf_9_2 hP76).2; rw [e95] at h97
        rw [show wix 4123 = 10 from rfl] at xh84
        refine wk_ifeq r156_66 ⟨by omega, by omega⟩ ?_ ?_
        · intro h98
          clear h83
          obtain rfl : x9_3 = v90 := by omega
          obtain rfl : x9_2 = v94 := by omega
          refine wk_al0 r156_79 (wk_c8 r156_80 (wk_cv2 r156_82 kc_6_175 rfl (m7175_6 _ M75 4124 x9_1 x9_3 x9_2 T hP76 (by decide) ((hQ77.at g_9_1 rfl).trans ((hQ53.at g_9_1 rfl).trans ((hQ29.at g_9_1 rfl).trans ((hQ5.at g_9_1 rfl).trans ex9_1)))) (by first | with_reducible assumption | omega) (by first | with_reducible assumption | omega) e91 (by first | with_reducible assumption | omega) (by first | with_reducible assumption | omega) e95 (by first | with_reducible assumption | omega) (by first | with_reducible assumption | omega) (by omega) (by omega) (by omega) (by first | assumption | omega | (unfold stepok; omega)) pr85 pr86) (cqI ?_)))
          rintro v111 M99 ⟨hP100, hQ101, h112, h113, h103, h104, h105, h106, h107, xh108, pr109, pr110⟩
          have hF102 : Fr fm_m7156_6 M0 M99 := hF78.tr hQ101 rfl
          obtain ⟨v114, e115⟩ : ∃ v, M99 9 3 = v := ⟨_, rfl⟩
          have h116 := (bf_9_3 hP100).1; rw [e115] at h116
          have h117 := (bf_9_3 hP100).2; rw [e115] at h117
          obtain ⟨v118, e119⟩ : ∃ v, M99 9 2 = v := ⟨_, rfl⟩
          have h120 := (bf_9_2 hP100).1; rw [e119] at h120
          have h121 := (bf_9_2 hP100).2; rw [e119] at h121
          rw [show wix 4124 = 7 from rfl] at xh108
          refine wk_ifeq r156_85 ⟨by omega, by omega⟩ ?_ ?_
          · intro h122
            clear h107
            obtain rfl : x9_3 = v114 := by omega
            obtain rfl : x9_2 = v118 := by omega
            refine wk_al0 r156_118 (wk_c8 r156_119 (wk_cv2 r156_121 kc_6_175 rfl (m7175_6 _ M99 4115 x9_1 x9_3 x9_2 T hP100 (by decide) ((hQ101.at g_9_1 rfl).trans ((hQ77.at g_9_1 rfl).trans ((hQ53.at g_9_1 rfl).trans ((hQ29.at g_9_1 rfl).trans ((hQ5.at g_9_1 rfl).trans ex9_1))))) (by first | with_reducible assumption | omega) (by first | with_reducible assumption | omega) e115 (by first | with_reducible assumption | omega) (by first | with_reducible assumption | omega) e119 (by first | with_reducible assumption | omega) (by first | with_reducible assumption | omega) (by omega) (by omega) (by omega) (by first | assumption | omega | (unfold stepok; omega)) pr109 pr110) (cqI ?_)))
            rintro v135 M123 ⟨hP124, hQ125, h136, h137, h127, h128, h129, h130, h131, xh132, pr133, pr134⟩
            have hF126 : Fr fm_m7156_6 M0 M123 := hF102.tr hQ125 rfl
            obtain ⟨v138, e139⟩ : ∃ v, M123 9 3 = v := ⟨_, rfl⟩
            have h140 := (bf_9_3 hP124).1; rw [e139] at h140
            have h141 := (bf_9_3 hP124).2; rw [e139] at h141
            obtain ⟨v142, e143⟩ : ∃ v, M123 9 2 = v := ⟨_, rfl⟩
            have h144 := (bf_9_2 hP124).1; rw [e143] at h144
            have h145 := (bf_9_2 hP124).2; rw [e143] at h145
            rw [show wix 4115 = 8 from rfl] at xh132
            refine wk_ifeq r156_124 ⟨by omega, by omega⟩ ?_ ?_
            · intro h146
              clear h131
              obtain rfl : x9_3 = v138 := by omega
              obtain rfl : x9_2 = v142 := by omega
              refine wk_al0 r156_158 (wk_c1 r156_159 (wk_cv2 r156_160 kc_6_159 rfl (m7159_6 _ M123 1 x9_3 hP124 (by decide) (by decide) e139 (by first | with_reducible assumption | omega) (by first | with_reducible assumption | omega)) (cqI ?_)))
              rintro v155 M147 ⟨hP148, hQ149, h156, h157, h151, h152, h153, h154⟩
              have hF150 : Fr fm_m7156_6 M0 M147 := hF126.tr hQ149 rfl
              obtain ⟨v158, e159⟩ : ∃ v, M147 6 4 = v := ⟨_, rfl⟩
              have h160 := (bf_6_4 hP148).1; rw [e159] at h160
              have h161 := (bf_6_4 hP148).2; rw [e159] at h161
              obtain ⟨v162, e163⟩ : ∃ v, M147 6 5 = v := ⟨_, rfl⟩
              have h164 := (bf_6_5 hP148).1; rw [e163] at h164
              have h165 := (bf_6_5 hP148).2; rw [e163] at h165
              subst hQ; exact wk_zret r156_163 ⟨by omega, by omega⟩ (⟨rfl, _, rfl, hP148, hF150, by omega, by omega, by have := ((hQ149.at g_9_3 rfl).trans e139); omega, by have := ((hQ149.at g_9_3 rfl).trans e139); omega, by have := ((hQ149.at g_9_2 rfl).trans e143); omega, by have := ((hQ149.at g_9_2 rfl).trans e143); have := ((hQ149.at g_9_3 rfl).trans e139); omega, by have := e159; omega, by have := e163; omega, by have := ((hQ149.at g_7_2 rfl).trans ((hQ125.at g_7_2 rfl).trans ((hQ101.at g_7_2 rfl).trans ((hQ77.at g_7_2 rfl).trans ((hQ53.at g_7_2 rfl).trans ((hQ29.at g_7_2 rfl).trans ((hQ5.at g_7_2 rfl).trans ex7_2))))))); omega, by have := ((hQ149.at g_7_3 rfl).trans ((hQ125.at g_7_3 rfl).trans ((hQ101.at g_7_3 rfl).trans ((hQ77.at g_7_3 rfl).trans ((hQ53.at g_7_3 rfl).trans ((hQ29.at g_7_3 rfl).trans ((hQ5.at g_7_3 rfl).trans ex7_3))))))); omega, by have := ((hQ149.at g_7_5 rfl).trans ((hQ125.at g_7_5 rfl).trans ((hQ101.at g_7_5 rfl).trans ((hQ77.at g_7_5 rfl).trans ((hQ53.at g_7_5 rfl).trans ((hQ29.at g_7_5 rfl).trans ((hQ5.at g_7_5 rfl).trans ex7_5))))))); omega, by have := ((hQ149.at g_7_6 rfl).trans ((hQ125.at g_7_6 rfl).trans ((hQ101.at g_7_6 rfl).trans ((hQ77.at g_7_6 rfl).trans ((hQ53.at g_7_6 rfl).trans ((hQ29.at g_7_6 rfl).trans ((hQ5.at g_7_6 rfl).trans ex7_6))))))); omega, by omega, by omega, by omega, by omega, fun k a b => by rw [(fun k => (hQ149.at (ga_8 k) rfl).trans ((fun k => (hQ125.at (ga_8 k) rfl).trans ((fun k => (hQ101.at (ga_8 k) rfl).trans ((fun k => (hQ77.at (ga_8 k) rfl).trans ((fun k => (hQ53.at (ga_8 k) rfl).trans ((fun k => (hQ29.at (ga_8 k) rfl).trans ((fun k => (hQ5.at (ga_8 k) rfl).trans (hu2 k)) k)) k)) k)) k)) k)) k)) k]; exact dm0 k a b, Or.inr ⟨by omega, by rw [e163, e159]; exact c_bad xp0 xp1 (by omega) (by omega) (by omega) (by omega) (by omega) (by omega) (by omega) (by omega)⟩, (TXP_sm (Sm.fr hQ149 rfl) pr133), (TCP_sm (Sm.fr hQ149 rfl) pr134)⟩)
            · intro h166
              replace h131 := h131 (z1_of h136 h137 h166)
              refine wk_al0 r156_127 (wk_getfr r156_128 fd_6_1 (br_6_1 hP124) (wk_al0 r156_131 (wk_c1 r156_132 (wk_c2 r156_133 (wk_cv3 r156_135 kc_6_167 rfl (m7167_6 _ M123 0 6 x9_1 v138 v142 x6_4 x6_5 T hP124 (by decide) (by decide) (by decide) (by decide) ((hQ125.at g_9_1 rfl).trans ((hQ101.at g_9_1 rfl).trans ((hQ77.at g_9_1 rfl).trans ((hQ53.at g_9_1 rfl).trans ((hQ29.at g_9_1 rfl).trans ((hQ5.at g_9_1 rfl).trans ex9_1)))))) (by first | with_reducible assumption | omega) (by first | with_reducible assumption | omega) e139 (by first | with_reducible assumption | omega) (by first | with_reducible assumption | omega) e143 (by first | with_reducible assumption | omega) (by first | with_reducible assumption | omega) ((hQ125.at g_6_4 rfl).trans ((hQ101.at g_6_4 rfl).trans ((hQ77.at g_6_4 rfl).trans ((hQ53.at g_6_4 rfl).trans ((hQ29.at g_6_4 rfl).trans ((hQ5.at g_6_4 rfl).trans ex6_4)))))) (by first | with_reducible assumption | omega) (by first | with_reducible assumption | omega) ((hQ125.at g_6_5 rfl).trans ((hQ101.at g_6_5 rfl).trans ((hQ77.at g_6_5 rfl).trans ((hQ53.at g_6_5 rfl).trans ((hQ29.at g_6_5 rfl).trans ((hQ5.at g_6_5 rfl).trans ex6_5)))))) (by first | with_reducible assumption | omega) (by first | with_reducible assumption | omega) (by omega) (by omega) (by omega) pr133 pr134) (cqI ?_))))))
              rintro v181 M167 ⟨hP168, hQ169, h182, h183, h171, h172, h173, h174, h175, h176, h177, xh178, pr179, pr180⟩
              have hF170 : Fr fm_m7156_6 M0 M167 := hF126.tr hQ169 rfl
              obtain ⟨v184, e185⟩ : ∃ v, M167 9 3 = v := ⟨_, rfl⟩
              have h186 := (bf_9_3 hP168).1; rw [e185] at h186
              have h187 := (bf_9_3 hP168).2; rw [e185] at h187
              obtain ⟨v188, e189⟩ : ∃ v, M167 9 2 = v := ⟨_, rfl⟩
              have h190 := (bf_9_2 hP168).1; rw [e189] at h190
              have h191 := (bf_9_2 hP168).2; rw [e189] at h191
              obtain ⟨v192, e193⟩ : ∃ v, M167 6 4 = v := ⟨_, rfl⟩
              have h194 := (bf_6_4 hP168).1; rw [e193] at h194
              have h195 := (bf_6_4 hP168).2; rw [e193] at h195
              obtain ⟨v196, e197⟩ : ∃ v, M167 6 5 = v := ⟨_, rfl⟩
              have h198 := (bf_6_5 hP168).1; rw [e197] at h198
              have h199 := (bf_6_5 hP168).2; rw [e197] at h199
              refine wk_putfi81 r156_138 fd_7_3 (wk_nw g_7_3 rfl hP168 hF170 (uf_7_3 ⟨by omega, by omega⟩) ?_)
              intro M200 hP201 hF202 e203
              refine wk_al0 r156_141 (wk_getfr r156_142 fd_6_1 (br_6_1 hP201) (wk_getfi r156_145 fd_7_3 (mUp_at e203) (wk_c1 r156_148 ?_)))
              refine wk_iceq r156_149 ⟨by omega, by omega⟩ (by decide) ?_ ?_
              · intro h204
                refine wk_c1 r156_156 ?_
                subst hQ; exact wk_zret r156_157 (by decide) (⟨rfl, _, rfl, hP201, hF202, by omega, by omega, by have := (mUp_no e203 e185 (Or.inl (by decide))); omega, by have := (mUp_no e203 e185 (Or.inl (by decide))); omega, by have := (mUp_no e203 e189 (Or.inl (by decide))); omega, by have := (mUp_no e203 e189 (Or.inl (by decide))); have := (mUp_no e203 e185 (Or.inl (by decide))); omega, by have := (mUp_no e203 e193 (Or.inl (by decide))); omega, by have := (mUp_no e203 e197 (Or.inl (by decide))); omega, by have := (mUp_no e203 ((hQ169.at g_7_2 rfl).trans ((hQ125.at g_7_2 rfl).trans ((hQ101.at g_7_2 rfl).trans ((hQ77.at g_7_2 rfl).trans ((hQ53.at g_7_2 rfl).trans ((hQ29.at g_7_2 rfl).trans ((hQ5.at g_7_2 rfl).trans ex7_2))))))) (Or.inr (by decide))); omega, by have := (mUp_at e203); omega, by have := (mUp_no e203 ((hQ169.at g_7_5 rfl).trans ((hQ125.at g_7_5 rfl).trans ((hQ101.at g_7_5 rfl).trans ((hQ77.at g_7_5 rfl).trans ((hQ53.at g_7_5 rfl).trans ((hQ29.at g_7_5 rfl).trans ((hQ5.at g_7_5 rfl).trans ex7_5))))))) (Or.inr (by decide))); omega, by have := (mUp_no e203 ((hQ169.at g_7_6 rfl).trans ((hQ125.at g_7_6 rfl).trans ((hQ101.at g_7_6 rfl).trans ((hQ77.at g_7_6 rfl).trans ((hQ53.at g_7_6 rfl).trans ((hQ29.at g_7_6 rfl).trans ((hQ5.at g_7_6 rfl).trans ex7_6))))))) (Or.inr (by decide))); omega, by omega, by omega, by omega, by omega, fun k a b => by rw [(fun k => mUp_no e203 ((fun k => (hQ169.at (ga_8 k) rfl).trans ((fun k => (hQ125.at (ga_8 k) rfl).trans ((fun k => (hQ101.at (ga_8 k) rfl).trans ((fun k => (hQ77.at (ga_8 k) rfl).trans ((fun k => (hQ53.at (ga_8 k) rfl).trans ((fun k => (hQ29.at (ga_8 k) rfl).trans ((fun k => (hQ5.at (ga_8 k) rfl).trans (hu2 k)) k)) k)) k)) k)) k)) k)) k) (Or.inl (by decide))) k]; exact dm0 k a b, Or.inr ⟨by omega, by rw [(mUp_no e203 e197 (Or.inl (by decide))), (mUp_no e203 e193 (Or.inl (by decide)))]; exact c_dayn (s1 := v138) xp0 (by omega) (by omega) (by omega) (by omega) (by omega)⟩, (TXP_sm (Sm.up e203 g_7_3 rfl) pr179), (TCP_sm (Sm.up e203 g_7_3 rfl) pr180)⟩)
              · intro h205
                refine wk_c1 r156_152 (wk_goto r156_153 ?_)
                subst hQ; exact wk_zret r156_157 (by decide) (⟨rfl, _, rfl, hP201, hF202, by omega, by omega, by have := (mUp_no e203 e185 (Or.inl (by decide))); omega, by have := (mUp_no e203 e185 (Or.inl (by decide))); omega, by have := (mUp_no e203 e189 (Or.inl (by decide))); omega, by have := (mUp_no e203 e189 (Or.inl (by decide))); have := (mUp_no e203 e185 (Or.inl (by decide))); omega, by have := (mUp_no e203 e193 (Or.inl (by decide))); omega, by have := (mUp_no e203 e197 (Or.inl (by decide))); omega, by have := (mUp_no e203 ((hQ169.at g_7_2 rfl).trans ((hQ125.at g_7_2 rfl).trans ((hQ101.at g_7_2 rfl).trans ((hQ77.at g_7_2 rfl).trans ((hQ53.at g_7_2 rfl).trans ((hQ29.at g_7_2 rfl).trans ((hQ5.at g_7_2 rfl).trans ex7_2))))))) (Or.inr (by decide))); omega, by have := (mUp_at e203); omega, by have := (mUp_no e203 ((hQ169.at g_7_5 rfl).trans ((hQ125.at g_7_5 rfl).trans ((hQ101.at g_7_5 rfl).trans ((hQ77.at g_7_5 rfl).trans ((hQ53.at g_7_5 rfl).trans ((hQ29.at g_7_5 rfl).trans ((hQ5.at g_7_5 rfl).trans ex7_5))))))) (Or.inr (by decide))); omega, by have := (mUp_no e203 ((hQ169.at g_7_6 rfl).trans ((hQ125.at g_7_6 rfl).trans ((hQ101.at g_7_6 rfl).trans ((hQ77.at g_7_6 rfl).trans ((hQ53.at g_7_6 rfl).trans ((hQ29.at g_7_6 rfl).trans ((hQ5.at g_7_6 rfl).trans ex7_6))))))) (Or.inr (by decide))); omega, by have := (mUp_no e203 e193 (Or.inl (by decide))); omega, by have := (mUp_no e203 e193 (Or.inl (by decide))); omega, by have := (mUp_no e203 e197 (Or.inl (by decide))); omega, by have := (mUp_no e203 e197 (Or.inl (by decide))); omega, fun k a b => by rw [(fun k => mUp_no e203 ((fun k => (hQ169.at (ga_8 k) rfl).trans ((fun k => (hQ125.at (ga_8 k) rfl).trans ((fun k => (hQ101.at (ga_8 k) rfl).trans ((fun k => (hQ77.at (ga_8 k) rfl).trans ((fun k => (hQ53.at (ga_8 k) rfl).trans ((fun k => (hQ29.at (ga_8 k) rfl).trans ((fun k => (hQ5.at (ga_8 k) rfl).trans (hu2 k)) k)) k)) k)) k)) k)) k)) k) (Or.inl (by decide))) k]; exact dm0 k a b, Or.inl ⟨by omega, by rw [(mUp_no e203 e185 (Or.inl (by decide))), (mUp_no e203 ((hQ169.at g_7_2 rfl).trans ((hQ125.at g_7_2 rfl).trans ((hQ101.at g_7_2 rfl).trans ((hQ77.at g_7_2 rfl).trans ((hQ53.at g_7_2 rfl).trans ((hQ29.at g_7_2 rfl).trans ((hQ5.at g_7_2 rfl).trans ex7_2))))))) (Or.inr (by decide))), (mUp_at e203), (mUp_no e203 ((hQ169.at g_7_5 rfl).trans ((hQ125.at g_7_5 rfl).trans ((hQ101.at g_7_5 rfl).trans ((hQ77.at g_7_5 rfl).trans ((hQ53.at g_7_5 rfl).trans ((hQ29.at g_7_5 rfl).trans ((hQ5.at g_7_5 rfl).trans ex7_5))))))) (Or.inr (by decide))), (mUp_no e203 ((hQ169.at g_7_6 rfl).trans ((hQ125.at g_7_6 rfl).trans ((hQ101.at g_7_6 rfl).trans ((hQ77.at g_7_6 rfl).trans ((hQ53.at g_7_6 rfl).trans ((hQ29.at g_7_6 rfl).trans ((hQ5.at g_7_6 rfl).trans ex7_6))))))) (Or.inr (by decide)))]; exact I_c (c_day (s1 := v138) (s2 := v184) (da2 := v181) xp0 (by omega) (by omega) (by omega) (by omega) (by omega)) (by omega) rfl rfl (by omega) (by omega) (by omega) (by omega) (nr_eq (fun k _ _ => (fun k => mUp_no e203 ((fun k => (hQ169.at (ga_8 k) rfl).trans ((fun k => (hQ125.at (ga_8 k) rfl).trans ((fun k => (hQ101.at (ga_8 k) rfl).trans ((fun k => (hQ77.at (ga_8 k) rfl).trans ((fun k => (hQ53.at (ga_8 k) rfl).trans ((fun k => (hQ29.at (ga_8 k) rfl).trans ((fun k => (hQ5.at (ga_8 k) rfl).trans (hu2 k)) k)) k)) k)) k)) k)) k)) k) (Or.inl (by decide))) k))⟩, (TXP_sm (Sm.up e203 g_7_3 rfl) pr179), (TCP_sm (Sm.up e203 g_7_3 rfl) pr180)⟩)
          · intro h206
            replace h107 := h107 (z1_of h112 h113 h206)
            refine wk_al0 r156_88 (wk_getfr r156_89 fd_6_1 (br_6_1 hP100) (wk_al0 r156_92 (wk_c1 r156_93 (wk_c1 r156_94 (wk_cv3 r156_95 kc_6_167 rfl (m7167_6 _ M99 1 4 x9_1 v114 v118 x6_4 x6_5 T hP100 (by decide) (by decide) (by decide) (by decide) ((hQ101.at g_9_1 rfl).trans ((hQ77.at g_9_1 rfl).trans ((hQ53.at g_9_1 rfl).trans ((hQ29.at g_9_1 rfl).trans ((hQ5.at g_9_1 rfl).trans ex9_1))))) (by first | with_reducible assumption | omega) (by first | with_reducible assumption | omega) e115 (by first | with_reducible assumption | omega) (by first | with_reducible assumption | omega) e119 (by first | with_reducible assumption | omega) (by first | with_reducible assumption | omega) ((hQ101.at g_6_4 rfl).trans ((hQ77.at g_6_4 rfl).trans ((hQ53.at g_6_4 rfl).trans ((hQ29.at g_6_4 rfl).trans ((hQ5.at g_6_4 rfl).trans ex6_4))))) (by first | with_reducible assumption | omega) (by first | with_reducible assumption | omega) ((hQ101.at g_6_5 rfl).trans ((hQ77.at g_6_5 rfl).trans ((hQ53.at g_6_5 rfl).trans ((hQ29.at g_6_5 rfl).trans ((hQ5.at g_6_5 rfl).trans ex6_5))))) (by first | with_reducible assumption | omega) (by first | with_reducible assumption | omega) (by omega) (by omega) (by omega) pr109 pr110) (cqI ?_))))))
            rintro v221 M207 ⟨hP208, hQ209, h222, h223, h211, h212, h213, h214, h215, h216, h217, xh218, pr219, pr220⟩
            have hF210 : Fr fm_m7156_6 M0 M207 := hF102.tr hQ209 rfl
            obtain ⟨v224, e225⟩ : ∃ v, M207 9 3 = v := ⟨_, rfl⟩
            have h226 := (bf_9_3 hP208).1; rw [e225] at h226
            have h227 := (bf_9_3 hP208).2; rw [e225] at h227
            obtain ⟨v228, e229⟩ : ∃ v, M207 9 2 = v := ⟨_, rfl⟩
            have h230 := (bf_9_2 hP208).1; rw [e229] at h230
            have h231 := (bf_9_2 hP208).2; rw [e229] at h231
            obtain ⟨v232, e233⟩ : ∃ v, M207 6 4 = v := ⟨_, rfl⟩
            have h234 := (bf_6_4 hP208).1; rw [e233] at h234
            have h235 := (bf_6_4 hP208).2; rw [e233] at h235
            obtain ⟨v236, e237⟩ : ∃ v, M207 6 5 = v := ⟨_, rfl⟩
            have h238 := (bf_6_5 hP208).1; rw [e237] at h238
            have h239 := (bf_6_5 hP208).2; rw [e237] at h239
            refine wk_putfi81 r156_98 fd_7_2 (wk_nw g_7_2 rfl hP208 hF210 (uf_7_2 ⟨by omega, by omega⟩) ?_)
            intro M240 hP241 hF242 e243
            refine wk_al0 r156_101 (wk_getfr r156_102 fd_6_1 (br_6_1 hP241) (wk_getfi r156_105 fd_7_2 (mUp_at e243) (wk_c1 r156_108 ?_)))
            refine wk_iceq r156_109 ⟨by omega, by omega⟩ (by decide) ?_ ?_
            · intro h244
              refine wk_c1 r156_116 ?_
              subst hQ; exact wk_zret r156_117 (by decide) (⟨rfl, _, rfl, hP241, hF242, by omega, by omega, by have := (mUp_no e243 e225 (Or.inl (by decide))); omega, by have := (mUp_no e243 e225 (Or.inl (by decide))); omega, by have := (mUp_no e243 e229 (Or.inl (by decide))); omega, by have := (mUp_no e243 e229 (Or.inl (by decide))); have := (mUp_no e243 e225 (Or.inl (by decide))); omega, by have := (mUp_no e243 e233 (Or.inl (by decide))); omega, by have := (mUp_no e243 e237 (Or.inl (by decide))); omega, by have := (mUp_at e243); omega, by have := (mUp_no e243 ((hQ209.at g_7_3 rfl).trans ((hQ101.at g_7_3 rfl).trans ((hQ77.at g_7_3 rfl).trans ((hQ53.at g_7_3 rfl).trans ((hQ29.at g_7_3 rfl).trans ((hQ5.at g_7_3 rfl).trans ex7_3)))))) (Or.inr (by decide))); omega, by have := (mUp_no e243 ((hQ209.at g_7_5 rfl).trans ((hQ101.at g_7_5 rfl).trans ((hQ77.at g_7_5 rfl).trans ((hQ53.at g_7_5 rfl).trans ((hQ29.at g_7_5 rfl).trans ((hQ5.at g_7_5 rfl).trans ex7_5)))))) (Or.inr (by decide))); omega, by have := (mUp_no e243 ((hQ209.at g_7_6 rfl).trans ((hQ101.at g_7_6 rfl).trans ((hQ77.at g_7_6 rfl).trans ((hQ53.at g_7_6 rfl).trans ((hQ29.at g_7_6 rfl).trans ((hQ5.at g_7_6 rfl).trans ex7_6)))))) (Or.inr (by decide))); omega, by omega, by omega, by omega, by omega, fun k a b => by rw [(fun k => mUp_no e243 ((fun k => (hQ209.at (ga_8 k) rfl).trans ((fun k => (hQ101.at (ga_8 k) rfl).trans ((fun k => (hQ77.at (ga_8 k) rfl).trans ((fun k => (hQ53.at (ga_8 k) rfl).trans ((fun k => (hQ29.at (ga_8 k) rfl).trans ((fun k => (hQ5.at (ga_8 k) rfl).trans (hu2 k)) k)) k)) k)) k)) k)) k) (Or.inl (by decide))) k]; exact dm0 k a b, Or.inr ⟨by omega, by rw [(mUp_no e243 e237 (Or.inl (by decide))), (mUp_no e243 e233 (Or.inl (by decide)))]; exact c_roadsn (s1 := v114) xp0 (by omega) (by omega) (by omega) (by omega) (by omega)⟩, (TXP_sm (Sm.up e243 g_7_2 rfl) pr219), (TCP_sm (Sm.up e243 g_7_2 rfl) pr220)⟩)
            · intro h245
              refine wk_c1 r156_112 (wk_goto r156_113 ?_)
              subst hQ; exact wk_zret r156_117 (by decide) (⟨rfl, _, rfl, hP241, hF242, by omega, by omega, by have := (mUp_no e243 e225 (Or.inl (by decide))); omega, by have := (mUp_no e243 e225 (Or.inl (by decide))); omega, by have := (mUp_no e243 e229 (Or.inl (by decide))); omega, by have := (mUp_no e243 e229 (Or.inl (by decide))); have := (mUp_no e243 e225 (Or.inl (by decide))); omega, by have := (mUp_no e243 e233 (Or.inl (by decide))); omega, by have := (mUp_no e243 e237 (Or.inl (by decide))); omega, by have := (mUp_at e243); omega, by have := (mUp_no e243 ((hQ209.at g_7_3 rfl).trans ((hQ101.at g_7_3 rfl).trans ((hQ77.at g_7_3 rfl).trans ((hQ53.at g_7_3 rfl).trans ((hQ29.at g_7_3 rfl).trans ((hQ5.at g_7_3 rfl).trans ex7_3)))))) (Or.inr (by decide))); omega, by have := (mUp_no e243 ((hQ209.at g_7_5 rfl).trans ((hQ101.at g_7_5 rfl).trans ((hQ77.at g_7_5 rfl).trans ((hQ53.at g_7_5 rfl).trans ((hQ29.at g_7_5 rfl).trans ((hQ5.at g_7_5 rfl).trans ex7_5)))))) (Or.inr (by decide))); omega, by have := (mUp_no e243 ((hQ209.at g_7_6 rfl).trans ((hQ101.at g_7_6 rfl).trans ((hQ77.at g_7_6 rfl).trans ((hQ53.at g_7_6 rfl).trans ((hQ29.at g_7_6 rfl).trans ((hQ5.at g_7_6 rfl).trans ex7_6)))))) (Or.inr (by decide))); omega, by have := (mUp_no e243 e233 (Or.inl (by decide))); omega, by have := (mUp_no e243 e233 (Or.inl (by decide))); omega, by have := (mUp_no e243 e237 (Or.inl (by decide))); omega, by have := (mUp_no e243 e237 (Or.inl (by decide))); omega, fun k a b => by rw [(fun k => mUp_no e243 ((fun k => (hQ209.at (ga_8 k) rfl).trans ((fun k => (hQ101.at (ga_8 k) rfl).trans ((fun k => (hQ77.at (ga_8 k) rfl).trans ((fun k => (hQ53.at (ga_8 k) rfl).trans ((fun k => (hQ29.at (ga_8 k) rfl).trans ((fun k => (hQ5.at (ga_8 k) rfl).trans (hu2 k)) k)) k)) k)) k)) k)) k) (Or.inl (by decide))) k]; exact dm0 k a b, Or.inl ⟨by omega, by rw [(mUp_no e243 e225 (Or.inl (by decide))), (mUp_at e243), (mUp_no e243 ((hQ209.at g_7_3 rfl).trans ((hQ101.at g_7_3 rfl).trans ((hQ77.at g_7_3 rfl).trans ((hQ53.at g_7_3 rfl).trans ((hQ29.at g_7_3 rfl).trans ((hQ5.at g_7_3 rfl).trans ex7_3)))))) (Or.inr (by decide))), (mUp_no e243 ((hQ209.at g_7_5 rfl).trans ((hQ101.at g_7_5 rfl).trans ((hQ77.at g_7_5 rfl).trans ((hQ53.at g_7_5 rfl).trans ((hQ29.at g_7_5 rfl).trans ((hQ5.at g_7_5 rfl).trans ex7_5)))))) (Or.inr (by decide))), (mUp_no e243 ((hQ209.at g_7_6 rfl).trans ((hQ101.at g_7_6 rfl).trans ((hQ77.at g_7_6 rfl).trans ((hQ53.at g_7_6 rfl).trans ((hQ29.at g_7_6 rfl).trans ((hQ5.at g_7_6 rfl).trans ex7_6)))))) (Or.inr (by decide)))]; exact I_c (c_roads (s1 := v114) (s2 := v224) (ro2 := v221) xp0 (by omega) (by omega) (by omega) (by omega) (by omega)) (by omega) rfl rfl (by omega) (by omega) (by omega) (by omega) (nr_eq (fun k _ _ => (fun k => mUp_no e243 ((fun k => (hQ209.at (ga_8 k) rfl).trans ((fun k => (hQ101.at (ga_8 k) rfl).trans ((fun k => (hQ77.at (ga_8 k) rfl).trans ((fun k => (hQ53.at (ga_8 k) rfl).trans ((fun k => (hQ29.at (ga_8 k) rfl).trans ((fun k => (hQ5.at (ga_8 k) rfl).trans (hu2 k)) k)) k)) k)) k)) k)) k) (Or.inl (by decide))) k))⟩, (TXP_sm (Sm.up e243 g_7_2 rfl) pr219), (TCP_sm (Sm.up e243 g_7_2 rfl) pr220)⟩)
        · intro h246
          replace h83 := h83 (z1_of h88 h89 h246)
          refine wk_al0 r156_69 (wk_getfr r156_70 fd_6_1 (br_6_1 hP76) (wk_c1 r156_73 (wk_putfz81 r156_74 fd_7_6 (by decide) (wk_nw g_7_6 rfl hP76 hF78 (uf_7_6 (by decide)) ?_))))
          intro M247 hP248 hF249 e250
          refine wk_c1 r156_77 ?_
          subst hQ; exact wk_zret r156_78 (by decide) (⟨rfl, _, rfl, hP248, hF249, by omega, by omega, by have := (mUp_no e250 e91 (Or.inl (by decide))); omega, by have := (mUp_no e250 e91 (Or.inl (by decide))); omega, by have := (mUp_no e250 e95 (Or.inl (by decide))); omega, by have := (mUp_no e250 e95 (Or.inl (by decide))); have := (mUp_no e250 e91 (Or.inl (by decide))); omega, by have := (mUp_no e250 ((hQ77.at g_6_4 rfl).trans ((hQ53.at g_6_4 rfl).trans ((hQ29.at g_6_4 rfl).trans ((hQ5.at g_6_4 rfl).trans ex6_4)))) (Or.inl (by decide))); omega, by have := (mUp_no e250 ((hQ77.at g_6_5 rfl).trans ((hQ53.at g_6_5 rfl).trans ((hQ29.at g_6_5 rfl).trans ((hQ5.at g_6_5 rfl).trans ex6_5)))) (Or.inl (by decide))); omega, by have := (mUp_no e250 ((hQ77.at g_7_2 rfl).trans ((hQ53.at g_7_2 rfl).trans ((hQ29.at g_7_2 rfl).trans ((hQ5.at g_7_2 rfl).trans ex7_2)))) (Or.inr (by decide))); omega, by have := (mUp_no e250 ((hQ77.at g_7_3 rfl).trans ((hQ53.at g_7_3 rfl).trans ((hQ29.at g_7_3 rfl).trans ((hQ5.at g_7_3 rfl).trans ex7_3)))) (Or.inr (by decide))); omega, by have := (mUp_no e250 ((hQ77.at g_7_5 rfl).trans ((hQ53.at g_7_5 rfl).trans ((hQ29.at g_7_5 rfl).trans ((hQ5.at g_7_5 rfl).trans ex7_5)))) (Or.inr (by decide))); omega, by have := (mUp_at e250); omega, by have := (mUp_no e250 ((hQ77.at g_6_4 rfl).trans ((hQ53.at g_6_4 rfl).trans ((hQ29.at g_6_4 rfl).trans ((hQ5.at g_6_4 rfl).trans ex6_4)))) (Or.inl (by decide))); omega, by have := (mUp_no e250 ((hQ77.at g_6_4 rfl).trans ((hQ53.at g_6_4 rfl).trans ((hQ29.at g_6_4 rfl).trans ((hQ5.at g_6_4 rfl).trans ex6_4)))) (Or.inl (by decide))); omega, by have := (mUp_no e250 ((hQ77.at g_6_5 rfl).trans ((hQ53.at g_6_5 rfl).trans ((hQ29.at g_6_5 rfl).trans ((hQ5.at g_6_5 rfl).trans ex6_5)))) (Or.inl (by decide))); omega, by have := (mUp_no e250 ((hQ77.at g_6_5 rfl).trans ((hQ53.at g_6_5 rfl).trans ((hQ29.at g_6_5 rfl).trans ((hQ5.at g_6_5 rfl).trans ex6_5)))) (Or.inl (by decide))); omega, fun k a b => by rw [(fun k => mUp_no e250 ((fun k => (hQ77.at (ga_8 k) rfl).trans ((fun k => (hQ53.at (ga_8 k) rfl).trans ((fun k => (hQ29.at (ga_8 k) rfl).trans ((fun k => (hQ5.at (ga_8 k) rfl).trans (hu2 k)) k)) k)) k)) k) (Or.inl (by decide))) k]; exact dm0 k a b, Or.inl ⟨by omega, by rw [(mUp_no e250 e91 (Or.inl (by decide))), (mUp_no e250 ((hQ77.at g_7_2 rfl).trans ((hQ53.at g_7_2 rfl).trans ((hQ29.at g_7_2 rfl).trans ((hQ5.at g_7_2 rfl).trans ex7_2)))) (Or.inr (by decide))), (mUp_no e250 ((hQ77.at g_7_3 rfl).trans ((hQ53.at g_7_3 rfl).trans ((hQ29.at g_7_3 rfl).trans ((hQ5.at g_7_3 rfl).trans ex7_3)))) (Or.inr (by decide))), (mUp_no e250 ((hQ77.at g_7_5 rfl).trans ((hQ53.at g_7_5 rfl).trans ((hQ29.at g_7_5 rfl).trans ((hQ5.at g_7_5 rfl).trans ex7_5)))) (Or.inr (by decide))), (mUp_at e250)]; exact I_c (c_words (wo2 := 1) (s1 := v90) xp0 (by omega) (by omega) rfl) (by omega) rfl rfl (by omega) (by omega) (by omega) (by omega) (nr_eq (fun k _ _ => (fun k => mUp_no e250 ((fun k => (hQ77.at (ga_8 k) rfl).trans ((fun k => (hQ53.at (ga_8 k) rfl).trans ((fun k => (hQ29.at (ga_8 k) rfl).trans ((fun k => (hQ5.at (ga_8 k) rfl).trans (hu2 k)) k)) k)) k)) k) (Or.inl (by decide))) k))⟩, (TXP_sm (Sm.up e250 g_7_6 rfl) pr85), (TCP_sm (Sm.up e250 g_7_6 rfl) pr86)⟩)
      · intro h251
        replace h59 := h59 (z1_of h64 h65 h251)
        refine wk_al0 r156_37 (wk_c1 r156_38 (wk_cv2 r156_39 kc_6_158 rfl (m7158_6 _ M51 0 x9_1 v66 v70 x6_4 x6_5 x6_3 T (((0 : Int), (0 : Int), v66, (0 : Int))) hP52 (by decide) (by decide) ((hQ53.at g_9_1 rfl).trans ((hQ29.at g_9_1 rfl).trans ((hQ5.at g_9_1 rfl).trans ex9_1))) (by first | with_reducible assumption | omega) (by first | with_reducible assumption | omega) e67 (by first | with_reducible assumption | omega) (by first | with_reducible assumption | omega) e71 (by first | with_reducible assumption | omega) (by first | with_reducible assumption | omega) ((hQ53.at g_6_4 rfl).trans ((hQ29.at g_6_4 rfl).trans ((hQ5.at g_6_4 rfl).trans ex6_4))) (by first | with_reducible assumption | omega) (by first | with_reducible assumption | omega) ((hQ53.at g_6_5 rfl).trans ((hQ29.at g_6_5 rfl).trans ((hQ5.at g_6_5 rfl).trans ex6_5))) (by first | with_reducible assumption | omega) (by first | with_reducible assumption | omega) ((hQ53.at g_6_3 rfl).trans ((hQ29.at g_6_3 rfl).trans ((hQ5.at g_6_3 rfl).trans ex6_3))) (by first | with_reducible assumption | omega) (by first | with_reducible assumption | omega) (by omega) (by omega) (by omega) (Rch.rf _) pr61 pr62) (cqI ?_)))
        rintro v269 M252 ⟨hP253, hQ254, h270, h271, h256, h257, h258, h259, h260, h261, h262, h263, h264, h265, xh266, pr267, pr268⟩
        have hF255 : Fr fm_m7156_6 M0 M252 := hF54.tr hQ254 rfl
        obtain ⟨v272, e273⟩ : ∃ v, M252 9 3 = v := ⟨_, rfl⟩
        have h274 := (bf_9_3 hP253).1; rw [e273] at h274
        have h275 := (bf_9_3 hP253).2; rw [e273] at h275
        obtain ⟨v276, e277⟩ : ∃ v, M252 9 2 = v := ⟨_, rfl⟩
        have h278 := (bf_9_2 hP253).1; rw [e277] at h278
        have h279 := (bf_9_2 hP253).2; rw [e277] at h279
        obtain ⟨v280, e281⟩ : ∃ v, M252 6 4 = v := ⟨_, rfl⟩
        have h282 := (bf_6_4 hP253).1; rw [e281] at h282
        have h283 := (bf_6_4 hP253).2; rw [e281] at h283
        obtain ⟨v284, e285⟩ : ∃ v, M252 6 5 = v := ⟨_, rfl⟩
        have h286 := (bf_6_5 hP253).1; rw [e285] at h286
        have h287 := (bf_6_5 hP253).2; rw [e285] at h287
        refine wk_ifeq r156_42 ⟨by omega, by omega⟩ ?_ ?_
        · intro h288
          clear h262 h263 h264 h265
          refine wk_c1 r156_58 ?_
          subst hQ; exact wk_zret r156_59 (by decide) (⟨rfl, _, rfl, hP253, hF255, by omega, by omega, by have := e273; omega, by have := e273; omega, by have := e277; omega, by have := e277; have := e273; omega, by have := e281; omega, by have := e285; omega, by have := ((hQ254.at g_7_2 rfl).trans ((hQ53.at g_7_2 rfl).trans ((hQ29.at g_7_2 rfl).trans ((hQ5.at g_7_2 rfl).trans ex7_2)))); omega, by have := ((hQ254.at g_7_3 rfl).trans ((hQ53.at g_7_3 rfl).trans ((hQ29.at g_7_3 rfl).trans ((hQ5.at g_7_3 rfl).trans ex7_3)))); omega, by have := ((hQ254.at g_7_5 rfl).trans ((hQ53.at g_7_5 rfl).trans ((hQ29.at g_7_5 rfl).trans ((hQ5.at g_7_5 rfl).trans ex7_5)))); omega, by have := ((hQ254.at g_7_6 rfl).trans ((hQ53.at g_7_6 rfl).trans ((hQ29.at g_7_6 rfl).trans ((hQ5.at g_7_6 rfl).trans ex7_6)))); omega, by omega, by omega, by omega, by omega, fun k a b => by rw [(fun k => (hQ254.at (ga_8 k) rfl).trans ((fun k => (hQ53.at (ga_8 k) rfl).trans ((fun k => (hQ29.at (ga_8 k) rfl).trans ((fun k => (hQ5.at (ga_8 k) rfl).trans (hu2 k)) k)) k)) k)) k]; exact dm0 k a b, Or.inr ⟨by omega, by rw [e285, e281]; exact I_f (c_factn xp0 (by omega) (by omega) (or_r xh266 (by omega))) (by omega) (by omega)⟩, pr267, pr268⟩)
        · intro h289
          replace h262 := h262 (z1_of h270 h271 h289)
          replace h263 := h263 (z1_of h270 h271 h289)
          replace h264 := h264 (z1_of h270 h271 h289)
          replace h265 := h265 (z1_of h270 h271 h289)
          have r2 := or_l xh266 (by omega); rw [e273] at r2
          refine wk_al0 r156_45 (wk_c1 r156_46 (wk_c1 r156_47 (wk_cv3 r156_48 kc_6_172 rfl (m7172_6 _ M252 2 0 hP253 (by decide) (by decide) (by decide) (by decide) (by first | assumption | omega | (unfold stepok; omega))) (cqI ?_))))
          rintro v294 M290 ⟨hP291, hQ292, h295, h296⟩
          have hF293 : Fr fm_m7156_6 M0 M290 := hF255.tr hQ292 rfl
          refine wk_ifeq r156_51 ⟨by omega, by omega⟩ ?_ ?_
          · intro h297
            exfalso
            omega
          · intro h298
            refine wk_c1 r156_54 (wk_goto r156_55 ?_)
            subst hQ; exact wk_zret r156_59 (by decide) (⟨rfl, _, rfl, hP291, hF293, by omega, by omega, by have := ((hQ292.at g_9_3 rfl).trans e273); omega, by have := ((hQ292.at g_9_3 rfl).trans e273); omega, by have := ((hQ292.at g_9_2 rfl).trans e277); omega, by have := ((hQ292.at g_9_2 rfl).trans e277); have := ((hQ292.at g_9_3 rfl).trans e273); omega, by have := ((hQ292.at g_6_4 rfl).trans e281); omega, by have := ((hQ292.at g_6_5 rfl).trans e285); omega, by have := ((hQ292.at g_7_2 rfl).trans ((hQ254.at g_7_2 rfl).trans ((hQ53.at g_7_2 rfl).trans ((hQ29.at g_7_2 rfl).trans ((hQ5.at g_7_2 rfl).trans ex7_2))))); omega, by have := ((hQ292.at g_7_3 rfl).trans ((hQ254.at g_7_3 rfl).trans ((hQ53.at g_7_3 rfl).trans ((hQ29.at g_7_3 rfl).trans ((hQ5.at g_7_3 rfl).trans ex7_3))))); omega, by have := ((hQ292.at g_7_5 rfl).trans ((hQ254.at g_7_5 rfl).trans ((hQ53.at g_7_5 rfl).trans ((hQ29.at g_7_5 rfl).trans ((hQ5.at g_7_5 rfl).trans ex7_5))))); omega, by have := ((hQ292.at g_7_6 rfl).trans ((hQ254.at g_7_6 rfl).trans ((hQ53.at g_7_6 rfl).trans ((hQ29.at g_7_6 rfl).trans ((hQ5.at g_7_6 rfl).trans ex7_6))))); omega, by have := ((hQ292.at g_6_4 rfl).trans e281); omega, by have := ((hQ292.at g_6_4 rfl).trans e281); omega, by have := ((hQ292.at g_6_5 rfl).trans e285); omega, by have := ((hQ292.at g_6_5 rfl).trans e285); omega, fun k a b => by rw [(fun k => (hQ292.at (ga_8 k) rfl).trans ((fun k => (hQ254.at (ga_8 k) rfl).trans ((fun k => (hQ53.at (ga_8 k) rfl).trans ((fun k => (hQ29.at (ga_8 k) rfl).trans ((fun k => (hQ5.at (ga_8 k) rfl).trans (hu2 k)) k)) k)) k)) k)) k]; exact dm0 k a b, Or.inl ⟨by omega, by rw [((hQ292.at g_9_3 rfl).trans e273), ((hQ292.at g_7_2 rfl).trans ((hQ254.at g_7_2 rfl).trans ((hQ53.at g_7_2 rfl).trans ((hQ29.at g_7_2 rfl).trans ((hQ5.at g_7_2 rfl).trans ex7_2))))), ((hQ292.at g_7_3 rfl).trans ((hQ254.at g_7_3 rfl).trans ((hQ53.at g_7_3 rfl).trans ((hQ29.at g_7_3 rfl).trans ((hQ5.at g_7_3 rfl).trans ex7_3))))), ((hQ292.at g_7_5 rfl).trans ((hQ254.at g_7_5 rfl).trans ((hQ53.at g_7_5 rfl).trans ((hQ29.at g_7_5 rfl).trans ((hQ5.at g_7_5 rfl).trans ex7_5))))), ((hQ292.at g_7_6 rfl).trans ((hQ254.at g_7_6 rfl).trans ((hQ53.at g_7_6 rfl).trans ((hQ29.at g_7_6 rfl).trans ((hQ5.at g_7_6 rfl).trans ex7_6)))))]; exact I_c (c_fact xp0 (by omega) (by omega) (X_e r2.1 (by have := r2.2; omega) (by decide) rfl)) (by omega) rfl rfl (by omega) (by omega) (by omega) (by omega) (nr_eq (fun k _ _ => (fun k => (hQ292.at (ga_8 k) rfl).trans ((fun k => (hQ254.at (ga_8 k) rfl).trans ((fun k => (hQ53.at (ga_8 k) rfl).trans ((fun k => (hQ29.at (ga_8 k) rfl).trans ((fun k => (hQ5.at (ga_8 k) rfl).trans (hu2 k)) k)) k)) k)) k)) k))⟩, (TXP_sm (Sm.fr hQ292 rfl) pr267), (TCP_sm (Sm.fr hQ292 rfl) pr268)⟩)
    · intro h299
      replace h35 := h35 (z1_of h40 h41 h299)
      refine wk_al0 r156_23 (wk_cv1 r156_24 kc_6_162 rfl (m7162_6 _ M27 x9_1 v42 v46 x6_4 x6_5 x6_3 x7_2 x7_3 x7_5 x7_6 T i0 hP28 ((hQ29.at g_9_1 rfl).trans ((hQ5.at g_9_1 rfl).trans ex9_1)) (by first | with_reducible assumption | omega) (by first | with_reducible assumption | omega) e43 (by first | with_reducible assumption | omega) (by first | with_reducible assumption | omega) e47 (by first | with_reducible assumption | omega) (by first | with_reducible assumption | omega) ((hQ29.at g_6_4 rfl).trans ((hQ5.at g_6_4 rfl).trans ex6_4)) (by first | with_reducible assumption | omega) (by first | with_reducible assumption | omega) ((hQ29.at g_6_5 rfl).trans ((hQ5.at g_6_5 rfl).trans ex6_5)) (by first | with_reducible assumption | omega) (by first | with_reducible assumption | omega) ((hQ29.at g_6_3 rfl).trans ((hQ5.at g_6_3 rfl).trans ex6_3)) (by first | with_reducible assumption | omega) (by first | with_reducible assumption | omega) ((hQ29.at g_7_2 rfl).trans ((hQ5.at g_7_2 rfl).trans ex7_2)) (by first | with_reducible assumption | omega) (by first | with_reducible assumption | omega) ((hQ29.at g_7_3 rfl).trans ((hQ5.at g_7_3 rfl).trans ex7_3)) (by first | with_reducible assumption | omega) (by first | with_reducible assumption | omega) ((hQ29.at g_7_5 rfl).trans ((hQ5.at g_7_5 rfl).trans ex7_5)) (by first | with_reducible assumption | omega) (by first | with_reducible assumption | omega) ((hQ29.at g_7_6 rfl).trans ((hQ5.at g_7_6 rfl).trans ex7_6)) (by first | with_reducible assumption | omega) (by first | with_reducible assumption | omega) (by omega) (by omega) (by omega) (CX_m2 xp0 (by omega) (by omega) (nr_eq (fun k _ _ => (fun k => (hQ29.at (ga_8 k) rfl).trans ((fun k => (hQ5.at (ga_8 k) rfl).trans (hu2 k)) k)) k))) pr37 pr38) (cqI ?_))
      rintro v317 M300 ⟨hP301, hQ302, h318, h319, h304, h305, h306, h307, h308, h309, h310, h311, h312, h313, xh314, pr315, pr316⟩
      have hF303 : Fr fm_m7156_6 M0 M300 := hF30.tr hQ302 rfl
      obtain ⟨v320, e321⟩ : ∃ v, M300 9 3 = v := ⟨_, rfl⟩
      have h322 := (bf_9_3 hP301).1; rw [e321] at h322
      have h323 := (bf_9_3 hP301).2; rw [e321] at h323
      obtain ⟨v324, e325⟩ : ∃ v, M300 9 2 = v := ⟨_, rfl⟩
      have h326 := (bf_9_2 hP301).1; rw [e325] at h326
      have h327 := (bf_9_2 hP301).2; rw [e325] at h327
      obtain ⟨v328, e329⟩ : ∃ v, M300 6 4 = v := ⟨_, rfl⟩
      have h330 := (bf_6_4 hP301).1; rw [e329] at h330
      have h331 := (bf_6_4 hP301).2; rw [e329] at h331
      obtain ⟨v332, e333⟩ : ∃ v, M300 6 5 = v := ⟨_, rfl⟩
      have h334 := (bf_6_5 hP301).1; rw [e333] at h334
      have h335 := (bf_6_5 hP301).2; rw [e333] at h335
      subst hQ; exact wk_zret r156_27 ⟨by omega, by omega⟩ (⟨rfl, _, rfl, hP301, hF303, by omega, by omega, by have := e321; omega, by have := e321; omega, by have := e325; omega, by have := e325; have := e321; omega, by have := e329; omega, by have := e333; omega, by have := ((hQ302.at g_7_2 rfl).trans ((hQ29.at g_7_2 rfl).trans ((hQ5.at g_7_2 rfl).trans ex7_2))); omega, by have := ((hQ302.at g_7_3 rfl).trans ((hQ29.at g_7_3 rfl).trans ((hQ5.at g_7_3 rfl).trans ex7_3))); omega, by have := (bf_7_5 hP301); omega, by have := ((hQ302.at g_7_6 rfl).trans ((hQ29.at g_7_6 rfl).trans ((hQ5.at g_7_6 rfl).trans ex7_6))); omega, by have := e329; omega, by have := e329; omega, by have := e333; omega, by have := e333; omega, fun k a b => by rw [(fun k => (hQ302.at (ga_8 k) rfl).trans ((fun k => (hQ29.at (ga_8 k) rfl).trans ((fun k => (hQ5.at (ga_8 k) rfl).trans (hu2 k)) k)) k)) k]; exact dm0 k a b, xh314, pr315, pr316⟩)
  · intro h336
    replace h11 := h11 (z1_of h16 h17 h336)
    refine wk_al0 r156_9 (wk_cv1 r156_10 kc_6_164 rfl (m7164_6 _ M3 x9_1 v18 v22 x6_4 x6_5 x6_3 x7_2 x7_3 x7_5 x7_6 T i0 hP4 ((hQ5.at g_9_1 rfl).trans ex9_1) (by first | with_reducible assumption | omega) (by first | with_reducible assumption | omega) e19 (by first | with_reducible assumption | omega) (by first | with_reducible assumption | omega) e23 (by first | with_reducible assumption | omega) (by first | with_reducible assumption | omega) ((hQ5.at g_6_4 rfl).trans ex6_4) (by first | with_reducible assumption | omega) (by first | with_reducible assumption | omega) ((hQ5.at g_6_5 rfl).trans ex6_5) (by first | with_reducible assumption | omega) (by first | with_reducible assumption | omega) ((hQ5.at g_6_3 rfl).trans ex6_3) (by first | with_reducible assumption | omega) (by first | with_reducible assumption | omega) ((hQ5.at g_7_2 rfl).trans ex7_2) (by first | with_reducible assumption | omega) (by first | with_reducible assumption | omega) ((hQ5.at g_7_3 rfl).trans ex7_3) (by first | with_reducible assumption | omega) (by first | with_reducible assumption | omega) ((hQ5.at g_7_5 rfl).trans ex7_5) (by first | with_reducible assumption | omega) (by first | with_reducible assumption | omega) ((hQ5.at g_7_6 rfl).trans ex7_6) (by first | with_reducible assumption | omega) (by first | with_reducible assumption | omega) (by omega) (by omega) (by omega) (CX_m2 xp0 (by omega) (by omega) (nr_eq (fun k _ _ => (fun k => (hQ5.at (ga_8 k) rfl).trans (hu2 k)) k))) (fun k a b => by rw [(fun k => (hQ5.at (ga_8 k) rfl).trans (hu2 k)) k]; exact dm0 k a b) pr13 pr14) (cqI ?_))
    rintro v355 M337 ⟨hP338, hQ339, h356, h357, h341, h342, h343, h344, h345, h346, h347, h348, h349, h350, xh351, xh352, pr353, pr354⟩
    have hF340 : Fr fm_m7156_6 M0 M337 := hF6.tr hQ339 rfl
    obtain ⟨v358, e359⟩ : ∃ v, M337 9 3 = v := ⟨_, rfl⟩
    have h360 := (bf_9_3 hP338).1; rw [e359] at h360
    have h361 := (bf_9_3 hP338).2; rw [e359] at h361
    obtain ⟨v362, e363⟩ : ∃ v, M337 9 2 = v := ⟨_, rfl⟩
    have h364 := (bf_9_2 hP338).1; rw [e363] at h364
    have h365 := (bf_9_2 hP338).2; rw [e363] at h365
    obtain ⟨v366, e367⟩ : ∃ v, M337 6 4 = v := ⟨_, rfl⟩
    have h368 := (bf_6_4 hP338).1; rw [e367] at h368
    have h369 := (bf_6_4 hP338).2; rw [e367] at h369
    obtain ⟨v370, e371⟩ : ∃ v, M337 6 5 = v := ⟨_, rfl⟩
    have h372 := (bf_6_5 hP338).1; rw [e371] at h372
    have h373 := (bf_6_5 hP338).2; rw [e371] at h373
    subst hQ; exact wk_zret r156_13 ⟨by omega, by omega⟩ (⟨rfl, _, rfl, hP338, hF340, by omega, by omega, by have := e359; omega, by have := e359; omega, by have := e363; omega, by have := e363; have := e359; omega, by have := e367; omega, by have := e371; omega, by have := ((hQ339.at g_7_2 rfl).trans ((hQ5.at g_7_2 rfl).trans ex7_2)); omega, by have := ((hQ339.at g_7_3 rfl).trans ((hQ5.at g_7_3 rfl).trans ex7_3)); omega, by have := ((hQ339.at g_7_5 rfl).trans ((hQ5.at g_7_5 rfl).trans ex7_5)); omega, by have := ((hQ339.at g_7_6 rfl).trans ((hQ5.at g_7_6 rfl).trans ex7_6)); omega, by have := e367; omega, by have := e367; omega, by have := e371; omega, by have := e371; omega, xh351, xh352, pr353, pr354⟩)
def fm_m7169_6 : Nat := 4362286076526592
set_option maxHeartbeats 20000000 in
/-- IslandHall$Parser.readIsland -/
theorem m7169_6 {B : eB} (d : Nat) (M0 : Mm) (p1 : Int) (c2 : Int) (T : Int → Int) (hP0 : Pw M0) (l1 : 0 ≤ p1) (u1 : p1 ≤ 500) (hC2 : isC c2) (xp0 : ∀ k : Int, 0 ≤ k → k < p1 → (0 ≤ M0 1 k → T k = M0 1 k) ∧ (M0 1 k < 0 → -128 ≤ M0 1 k ∧ T k = M0 1 k + 256)) : Ct B (d + 42) 169 [R 6, I p1, R c2] M0 (qI fun z M => Pw M ∧ Fr fm_m7169_6 M0 M ∧ 0 ≤ z ∧ z ≤ 6 ∧ (z = 0 → SZk M 7 8 ≤ 3000) ∧ (∀ k : Int, 0 ≤ k → k < 7 → 1 ≤ M 8 k) ∧ (IO T p1 z (M 6 5) (M 6 3)) ∧ (z = 0 → M 7 1 = M 6 3)) := by
  refine ct_of (d := d + 41) (k := 2) (L := [some (R 6), some (I p1), some (R c2), none, none]) rfl rfl rfl ?_
  have hF0 := Fr.rf fm_m7169_6 M0
  generalize hQ : (qI fun z M => Pw M ∧ Fr fm_m7169_6 M0 M ∧ 0 ≤ z ∧ z ≤ 6 ∧ (z = 0 → SZk M 7 8 ≤ 3000) ∧ (∀ k : Int, 0 ≤ k → k < 7 → 1 ≤ M 8 k) ∧ (IO T p1 z (M 6 5) (M 6 3)) ∧ (z = 0 → M 7 1 = M 6 3)) = Q
  refine wk_al0 r169_0 (wk_il1 r169_1 (wk_al2 r169_2 (wk_cv3 r169_3 kc_6_154 rfl (m7154_6 _ M0 p1 c2 T hP0 (by first | with_reducible assumption | omega) (by first | with_reducible assumption | omega) hC2 (xp0)) (cqV ?_))))
  rintro M1 ⟨hP2, hQ3, h5, h6, h7, h8, h9, h10, h11, h12, h13, h14, xh15, pr16, pr17⟩
  have hF4 : Fr fm_m7169_6 M0 M1 := hF0.tr hQ3 rfl
  obtain ⟨v18, e19⟩ : ∃ v, M1 9 1 = v := ⟨_, rfl⟩
  have h20 := (bf_9_1 hP2).1; rw [e19] at h20
  have h21 := (bf_9_1 hP2).2; rw [e19] at h21
  obtain ⟨v22, e23⟩ : ∃ v, M1 9 3 = v := ⟨_, rfl⟩
  have h24 := (bf_9_3 hP2).1; rw [e23] at h24
  have h25 := (bf_9_3 hP2).2; rw [e23] at h25
  obtain ⟨v26, e27⟩ : ∃ v, M1 9 2 = v := ⟨_, rfl⟩
  have h28 := (bf_9_2 hP2).1; rw [e27] at h28
  have h29 := (bf_9_2 hP2).2; rw [e27] at h29
  obtain ⟨v30, e31⟩ : ∃ v, M1 6 4 = v := ⟨_, rfl⟩
  have h32 := (bf_6_4 hP2).1; rw [e31] at h32
  have h33 := (bf_6_4 hP2).2; rw [e31] at h33
  obtain ⟨v34, e35⟩ : ∃ v, M1 6 5 = v := ⟨_, rfl⟩
  have h36 := (bf_6_5 hP2).1; rw [e35] at h36
  have h37 := (bf_6_5 hP2).2; rw [e35] at h37
  obtain rfl : p1 = v18 := by omega
  have hs0 : v22 = sk T p1 0 := by have := e23; have := xh15; omega
  refine wk_al0 r169_6 (wk_getfr r169_7 fd_6_1 (br_6_1 hP2) (wk_cv1 r169_10 kc_7_183 rfl (m7183_7 _ M1 hP2) (cqV ?_)))
  rintro M38 ⟨hP39, hQ40, h42, h43, h44, h45, h46, h47, h48, h49, xh50, xh51⟩
  have hF41 : Fr fm_m7169_6 M0 M38 := hF4.tr hQ40 rfl
  obtain ⟨v52, e53⟩ : ∃ v, M38 7 2 = v := ⟨_, rfl⟩
  have h54 := (bf_7_2 hP39).1; rw [e53] at h54
  have h55 := (bf_7_2 hP39).2; rw [e53] at h55
  obtain ⟨v56, e57⟩ : ∃ v, M38 7 3 = v := ⟨_, rfl⟩
  have h58 := (bf_7_3 hP39).1; rw [e57] at h58
  have h59 := (bf_7_3 hP39).2; rw [e57] at h59
  obtain ⟨v60, e61⟩ : ∃ v, M38 7 5 = v := ⟨_, rfl⟩
  have h62 := (bf_7_5 hP39).1; rw [e61] at h62
  have h63 := (bf_7_5 hP39).2; rw [e61] at h63
  obtain ⟨v64, e65⟩ : ∃ v, M38 7 6 = v := ⟨_, rfl⟩
  have h66 := (bf_7_6 hP39).1; rw [e65] at h66
  have h67 := (bf_7_6 hP39).2; rw [e65] at h67
  obtain ⟨u68, hu69⟩ : ∃ u : Int → Int, ∀ k, M38 8 k = u k := ⟨fun k => M38 8 k, fun k => rfl⟩
  have dm0 : ∀ k : Int, 0 ≤ k → k < 7 → 1 ≤ u68 k := fun k a b => by rw [← hu69 k]; exact xh51 k a b
  have hu3 : ∀ k : Int, u68 k = 3 := fun k => by rw [← hu69 k]; exact xh50 k
  refine wk_al2 r169_13 (wk_cv1 r169_14 (kcC_144 hC2) rfl (m7144 _ M38 c2 hP39 hC2) (cqV ?_))
  rintro M70 ⟨hP71, hQ72⟩
  have hF73 : Fr fm_m7169_6 M0 M70 := hF41.tr hQ72 rfl
  refine wk_al0 r169_17 ?_
  obtain ⟨v74, e75⟩ : ∃ v, M70 6 3 = v := ⟨_, rfl⟩
  have h76 := (bf_6_3 hP71).1; rw [e75] at h76
  have h77 := (bf_6_3 hP71).2; rw [e75] at h77
  refine wk_cv1 r169_18 kc_6_160 rfl (m7160_6 _ M70 p1 v22 v26 v30 v34 v74 T hP71 ((hQ72.at g_9_1 rfl).trans ((hQ40.at g_9_1 rfl).trans e19)) (by first | with_reducible assumption | omega) (by first | with_reducible assumption | omega) ((hQ72.at g_9_3 rfl).trans ((hQ40.at g_9_3 rfl).trans e23)) (by first | with_reducible assumption | omega) (by first | with_reducible assumption | omega) ((hQ72.at g_9_2 rfl).trans ((hQ40.at g_9_2 rfl).trans e27)) (by first | with_reducible assumption | omega) (by first | with_reducible assumption | omega) ((hQ72.at g_6_4 rfl).trans ((hQ40.at g_6_4 rfl).trans e31)) (by first | with_reducible assumption | omega) (by first | with_reducible assumption | omega) ((hQ72.at g_6_5 rfl).trans ((hQ40.at g_6_5 rfl).trans e35)) (by first | with_reducible assumption | omega) (by first | with_reducible assumption | omega) e75 (by first | with_reducible assumption | omega) (by first | with_reducible assumption | omega) (by omega) (by omega) (by omega) (TXP_sm (Sm.fr hQ72 rfl) (TXP_sm (Sm.fr hQ40 rfl) pr16)) (TCP_sm (Sm.fr hQ72 rfl) (TCP_sm (Sm.fr hQ40 rfl) pr17))) (cqI ?_)
  rintro v99 M78 ⟨hP79, hQ80, h100, h101, h82, h83, h84, h85, h86, h87, h88, h89, h90, h91, h92, h93, h94, h95, xh96, pr97, pr98⟩
  have hF81 : Fr fm_m7169_6 M0 M78 := hF73.tr hQ80 rfl
  obtain ⟨v102, e103⟩ : ∃ v, M78 9 3 = v := ⟨_, rfl⟩
  have h104 := (bf_9_3 hP79).1; rw [e103] at h104
  have h105 := (bf_9_3 hP79).2; rw [e103] at h105
  obtain ⟨v106, e107⟩ : ∃ v, M78 9 2 = v := ⟨_, rfl⟩
  have h108 := (bf_9_2 hP79).1; rw [e107] at h108
  have h109 := (bf_9_2 hP79).2; rw [e107] at h109
  obtain ⟨v110, e111⟩ : ∃ v, M78 6 4 = v := ⟨_, rfl⟩
  have h112 := (bf_6_4 hP79).1; rw [e111] at h112
  have h113 := (bf_6_4 hP79).2; rw [e111] at h113
  obtain ⟨v114, e115⟩ : ∃ v, M78 6 5 = v := ⟨_, rfl⟩
  have h116 := (bf_6_5 hP79).1; rw [e115] at h116
  have h117 := (bf_6_5 hP79).2; rw [e115] at h117
  obtain ⟨v118, e119⟩ : ∃ v, M78 6 3 = v := ⟨_, rfl⟩
  have h120 := (bf_6_3 hP79).1; rw [e119] at h120
  have h121 := (bf_6_3 hP79).2; rw [e119] at h121
  obtain ⟨v122, e123⟩ : ∃ v, M78 7 1 = v := ⟨_, rfl⟩
  have h124 := (bf_7_1 hP79).1; rw [e123] at h124
  have h125 := (bf_7_1 hP79).2; rw [e123] at h125
  refine wk_is3 r169_21 rfl (wk_c1 r169_22 (wk_is4 r169_23 rfl ?_))
  have c25_2140 : ∀ (k2140 : Nat) (M1912 : Mm) (v1906 : Int) (v1909 : Int) (v1915 : Int) (v1919 : Int) (v1923 : Int) (v1927 : Int) (v1931 : Int) (v1935 : Int) (v1939 : Int) (v1943 : Int), (500 - v1909).toNat = k2140 → Pw M1912 → Fr fm_m7169_6 M0 M1912 → M1912 7 2 = v1915 → M1912 7 3 = v1919 → M1912 7 5 = v1923 → M1912 7 6 = v1927 → M1912 9 3 = v1931 → M1912 9 2 = v1935 → M1912 6 4 = v1939 → M1912 6 5 = v1943 → M1912 9 1 = p1 → M1912 6 3 = v118 → M1912 7 1 = v122 → 0 ≤ v1906 → v1906 ≤ 1 → 0 ≤ v1909 → v1909 ≤ 500 → (-1) ≤ v1915 → v1915 ≤ 4 → (-1) ≤ v1919 → v1919 ≤ 6 → 0 ≤ v1923 → v1923 ≤ 1 → 0 ≤ v1927 → v1927 ≤ 1 → 0 ≤ v1931 → v1931 ≤ 500 → 0 ≤ v1935 → v1935 ≤ 500 → 0 ≤ v1939 → v1939 ≤ 6 → (-1) ≤ v1943 → v1943 ≤ 500 → (TXP T M1912) → (TCP T M1912) → 0 ≤ 1 * p1 + (-1) * v1931 → 0 ≤ 1 * p1 + (-1) * v1935 → 0 ≤ 1 * v1935 + (-1) * v1931 → 0 ≤ 1 * v1931 + (-1) * v1909 + (-600) * v1906 + 600 → 0 ≤ (-1) * v1943 + 599 + (-600) * v1906 → 0 ≤ (-1) * v1939 + 10 + (-10) * v1906 → (∀ k : Int, 0 ≤ k → k < 7 → 1 ≤ M1912 8 k) → (RX T p1 (sk T p1 0) v1906 v122 v118 v1931 (v1915, v1919, v1923, v1927, nrI (fun k => M1912 8 k)) v1939 v1943) → Wp B (d + 41) 169 25 [some (R 6), none, none, some (I v1906), some (I v1909)] [] M1912 Q := by
    refine lp_ind ?_
    intro k2140 ih2140 M1912 v1906 v1909 v1915 v1919 v1923 v1927 v1931 v1935 v1939 v1943 hk2140 hP1913 hF1914 e1918 e1922 e1926 e1930 e1934 e1938 e1942 e1946 e1947 e1948 e1949 h1907 h1908 h1910 h1911 h1916 h1917 h1920 h1921 h1924 h1925 h1928 h1929 h1932 h1933 h1936 h1937 h1940 h1941 h1944 h1945 pr1950 pr1951 h1952 h1953 h1954 h1955 h1956 h1957 ti1958 ti1959
    refine wk_il4 r169_25 (wk_c3 r169_27 ?_)
    refine wk_icge r169_30 ⟨by omega, by omega⟩ (by decide) ?_ ?_
    · intro h1960
      obtain ⟨u1961, hu1962⟩ : ∃ u : Int → Int, ∀ k, M1912 8 k = u k := ⟨fun k => M1912 8 k, fun k => rfl⟩
      have dm3 : ∀ k : Int, 0 ≤ k → k < 7 → 1 ≤ u1961 k := fun k a b => by rw [← hu1962 k]; exact ti1958 k a b
      refine wk_il3 r169_75 ?_
      refine wk_ifeq r169_76 ⟨by omega, by omega⟩ ?_ ?_
      · intro h1963
        refine wk_al0 r169_99 (wk_getfi r169_100 fd_6_4 e1942 ?_)
        subst hQ; exact wk_iret r169_103 (⟨rfl, _, rfl, hP1913, hF1914, by omega, by omega, fun h => absurd h (by have q8 := IOF_nz (RX_0 ti1959 (by omega)); omega), fun k a b => by rw [hu1962 k]; exact dm3 k a b, by rw [e1946, e1948]; exact IO_f (RX_0 ti1959 (by omega)) (by omega), fun q => absurd q (by have q8 := IOF_nz (RX_0 ti1959 (by omega)); omega)⟩)
      · intro h1964
        have htt8 : tt T p1 v1931 = 0 := by have q8 := pr1951; unfold TCP at q8; rw [e1947, e1934] at q8; have := tt_lt T p1 v1931; omega
        obtain ⟨sh8, hg8, -⟩ := RX_1 ti1959 (by omega)
        have hb8 := HDg_b hg8
        have hp8 := RX_p ti1959 (by omega)
        have hsz8 := sz_cls (M := M1912) (fun k a b => ba_8 hP1913 a b) (by rw [e1949]; omega) (bf_7_5 hP1913) (bf_7_6 hP1913)
        rw [e1949, e1918, e1922, e1926, e1930] at hsz8
        have hpe8 := RX_p ti1959 (by omega); rw [hpe8] at hsz8
        refine wk_al0 r169_79 (wk_getfr r169_80 fd_6_1 (br_6_1 hP1913) (wk_cv1 r169_83 kc_7_184 rfl (m7184_7 _ M1912 hP1913) (cqI ?_)))
        rintro v1970 M1965 ⟨hP1966, hQ1967, h1971, h1972, xh1969⟩
        obtain rfl := Fr.same hQ1967
        refine wk_c3 r169_86 ?_
        refine wk_icle r169_89 ⟨by omega, by omega⟩ (by decide) ?_ ?_
        · intro h1973
          refine wk_al0 r169_99 (wk_getfi r169_100 fd_6_4 e1942 ?_)
          subst hQ; exact wk_iret r169_103 (⟨rfl, _, rfl, hP1913, hF1914, by omega, by omega, by first | (intro h; omega) | (intro _; rw [← xh1969]; omega), fun k a b => by rw [hu1962 k]; exact dm3 k a b, by rw [e1946, e1948]; exact IO_e ti1959 (by omega) htt8 (by omega), fun q => by rw [e1949, e1948]; exact RX_p ti1959 (by omega)⟩)
        · intro h1974
          refine wk_al0 r169_92 (wk_c2 r169_93 (wk_cv2 r169_95 kc_6_159 rfl (m7159_6 _ M1912 6 v1931 hP1913 (by decide) (by decide) e1934 (by first | with_reducible assumption | omega) (by first | with_reducible assumption | omega)) (cqI ?_)))
          rintro v1983 M1975 ⟨hP1976, hQ1977, h1984, h1985, h1979, h1980, h1981, h1982⟩
          have hF1978 : Fr fm_m7169_6 M0 M1975 := hF1914.tr hQ1977 rfl
          obtain ⟨v1986, e1987⟩ : ∃ v, M1975 6 4 = v := ⟨_, rfl⟩
          have h1988 := (bf_6_4 hP1976).1; rw [e1987] at h1988
          have h1989 := (bf_6_4 hP1976).2; rw [e1987] at h1989
          obtain ⟨v1990, e1991⟩ : ∃ v, M1975 6 5 = v := ⟨_, rfl⟩
          have h1992 := (bf_6_5 hP1976).1; rw [e1991] at h1992
          have h1993 := (bf_6_5 hP1976).2; rw [e1991] at h1993
          refine wk_popi r169_98 ?_
          refine wk_al0 r169_99 (wk_getfi r169_100 fd_6_4 e1987 ?_)
          subst hQ; exact wk_iret r169_103 (⟨rfl, _, rfl, hP1976, hF1978, by omega, by omega, by first | (intro h; omega) | (intro _; rw [← xh1969]; omega), fun k a b => by rw [(fun k => (hQ1977.at (ga_8 k) rfl).trans (hu1962 k)) k]; exact dm3 k a b, by rw [e1991, ((hQ1977.at g_6_3 rfl).trans e1948)]; exact IO_e ti1959 (by omega) htt8 (by omega), fun q => by omega⟩)
    · intro h1994
      refine wk_il3 r169_33 ?_
      refine wk_ifeq r169_34 ⟨by omega, by omega⟩ ?_ ?_
      · intro h1995
        obtain ⟨u1996, hu1997⟩ : ∃ u : Int → Int, ∀ k, M1912 8 k = u k := ⟨fun k => M1912 8 k, fun k => rfl⟩
        have dm3 : ∀ k : Int, 0 ≤ k → k < 7 → 1 ≤ u1996 k := fun k a b => by rw [← hu1997 k]; exact ti1958 k a b
        refine wk_il3 r169_75 ?_
        refine wk_ifeq r169_76 ⟨by omega, by omega⟩ ?_ ?_
        · intro h1998
          refine wk_al0 r169_99 (wk_getfi r169_100 fd_6_4 e1942 ?_)
          subst hQ; exact wk_iret r169_103 (⟨rfl, _, rfl, hP1913, hF1914, by omega, by omega, fun h => absurd h (by have q8 := IOF_nz (RX_0 ti1959 (by omega)); omega), fun k a b => by rw [hu1997 k]; exact dm3 k a b, by rw [e1946, e1948]; exact IO_f (RX_0 ti1959 (by omega)) (by omega), fun q => absurd q (by have q8 := IOF_nz (RX_0 ti1959 (by omega)); omega)⟩)
        · intro h1999
          exfalso
          omega
      · intro h2000
        refine wk_al0 r169_37 (wk_getfr r169_38 fd_6_0 (br_6_0 hP1913) (wk_getfb r169_41 fd_9_4 (bf_9_4 hP1913) ?_))
        intro v2001 h2003 h2004 e2002
        refine wk_ifeq r169_44 ⟨by omega, by omega⟩ ?_ ?_
        · intro h2005
          obtain ⟨u2006, hu2007⟩ : ∃ u : Int → Int, ∀ k, M1912 8 k = u k := ⟨fun k => M1912 8 k, fun k => rfl⟩
          have dm3 : ∀ k : Int, 0 ≤ k → k < 7 → 1 ≤ u2006 k := fun k a b => by rw [← hu2007 k]; exact ti1958 k a b
          refine wk_il3 r169_75 ?_
          refine wk_ifeq r169_76 ⟨by omega, by omega⟩ ?_ ?_
          · intro h2008
            exfalso
            omega
          · intro h2009
            have htt8 : tt T p1 v1931 = 0 := by have q8 := pr1951; unfold TCP at q8; rw [e1947, e1934] at q8; have := tt_lt T p1 v1931; omega
            obtain ⟨sh8, hg8, -⟩ := RX_1 ti1959 (by omega)
            have hb8 := HDg_b hg8
            have hp8 := RX_p ti1959 (by omega)
            have hsz8 := sz_cls (M := M1912) (fun k a b => ba_8 hP1913 a b) (by rw [e1949]; omega) (bf_7_5 hP1913) (bf_7_6 hP1913)
            rw [e1949, e1918, e1922, e1926, e1930] at hsz8
            have hpe8 := RX_p ti1959 (by omega); rw [hpe8] at hsz8
            refine wk_al0 r169_79 (wk_getfr r169_80 fd_6_1 (br_6_1 hP1913) (wk_cv1 r169_83 kc_7_184 rfl (m7184_7 _ M1912 hP1913) (cqI ?_)))
            rintro v2015 M2010 ⟨hP2011, hQ2012, h2016, h2017, xh2014⟩
            obtain rfl := Fr.same hQ2012
            refine wk_c3 r169_86 ?_
            refine wk_icle r169_89 ⟨by omega, by omega⟩ (by decide) ?_ ?_
            · intro h2018
              refine wk_al0 r169_99 (wk_getfi r169_100 fd_6_4 e1942 ?_)
              subst hQ; exact wk_iret r169_103 (⟨rfl, _, rfl, hP1913, hF1914, by omega, by omega, by first | (intro h; omega) | (intro _; rw [← xh2014]; omega), fun k a b => by rw [hu2007 k]; exact dm3 k a b, by rw [e1946, e1948]; exact IO_e ti1959 (by omega) htt8 (by omega), fun q => by rw [e1949, e1948]; exact RX_p ti1959 (by omega)⟩)
            · intro h2019
              refine wk_al0 r169_92 (wk_c2 r169_93 (wk_cv2 r169_95 kc_6_159 rfl (m7159_6 _ M1912 6 v1931 hP1913 (by decide) (by decide) e1934 (by first | with_reducible assumption | omega) (by first | with_reducible assumption | omega)) (cqI ?_)))
              rintro v2028 M2020 ⟨hP2021, hQ2022, h2029, h2030, h2024, h2025, h2026, h2027⟩
              have hF2023 : Fr fm_m7169_6 M0 M2020 := hF1914.tr hQ2022 rfl
              obtain ⟨v2031, e2032⟩ : ∃ v, M2020 6 4 = v := ⟨_, rfl⟩
              have h2033 := (bf_6_4 hP2021).1; rw [e2032] at h2033
              have h2034 := (bf_6_4 hP2021).2; rw [e2032] at h2034
              obtain ⟨v2035, e2036⟩ : ∃ v, M2020 6 5 = v := ⟨_, rfl⟩
              have h2037 := (bf_6_5 hP2021).1; rw [e2036] at h2037
              have h2038 := (bf_6_5 hP2021).2; rw [e2036] at h2038
              refine wk_popi r169_98 ?_
              refine wk_al0 r169_99 (wk_getfi r169_100 fd_6_4 e2032 ?_)
              subst hQ; exact wk_iret r169_103 (⟨rfl, _, rfl, hP2021, hF2023, by omega, by omega, by first | (intro h; omega) | (intro _; rw [← xh2014]; omega), fun k a b => by rw [(fun k => (hQ2022.at (ga_8 k) rfl).trans (hu2007 k)) k]; exact dm3 k a b, by rw [e2036, ((hQ2022.at g_6_3 rfl).trans e1948)]; exact IO_e ti1959 (by omega) htt8 (by omega), fun q => by omega⟩)
        · intro h2039
          obtain ⟨sh9, hg9, ri9⟩ := RX_1 ti1959 (by omega)
          have htt9 : tt T p1 v1931 ≠ 0 := by have q8 := pr1951; unfold TCP at q8; rw [e1947, e1934] at q8; omega
          have hpe9 := RX_p ti1959 (by omega)
          refine wk_al0 r169_47 (wk_cv1 r169_48 kc_6_156 rfl (m7156_6 _ M1912 p1 v1931 v1935 v1939 v1943 v118 v1915 v1919 v1923 v1927 T (((0 : Int), sh9, (0 : Int), (0 : Int), dg1)) hP1913 e1947 (by first | with_reducible assumption | omega) (by first | with_reducible assumption | omega) e1934 (by first | with_reducible assumption | omega) (by first | with_reducible assumption | omega) e1938 (by first | with_reducible assumption | omega) (by first | with_reducible assumption | omega) e1942 (by first | with_reducible assumption | omega) (by first | with_reducible assumption | omega) e1946 (by first | with_reducible assumption | omega) (by first | with_reducible assumption | omega) e1948 (by first | with_reducible assumption | omega) (by first | with_reducible assumption | omega) e1918 (by first | with_reducible assumption | omega) (by first | with_reducible assumption | omega) e1922 (by first | with_reducible assumption | omega) (by first | with_reducible assumption | omega) e1926 (by first | with_reducible assumption | omega) (by first | with_reducible assumption | omega) e1930 (by first | with_reducible assumption | omega) (by first | with_reducible assumption | omega) (by omega) (by omega) (by omega) (ri9) (htt9) (fun k a b => ti1958 k a b) pr1950 pr1951) (cqI ?_))
          rintro v2062 M2040 ⟨hP2041, hQ2042, h2063, h2064, h2044, h2045, h2046, h2047, h2048, h2049, h2050, h2051, h2052, h2053, h2054, h2055, h2056, h2057, xh2058, xh2059, pr2060, pr2061⟩
          have hF2043 : Fr fm_m7169_6 M0 M2040 := hF1914.tr hQ2042 rfl
          obtain ⟨v2065, e2066⟩ : ∃ v, M2040 9 3 = v := ⟨_, rfl⟩
          have h2067 := (bf_9_3 hP2041).1; rw [e2066] at h2067
          have h2068 := (bf_9_3 hP2041).2; rw [e2066] at h2068
          obtain ⟨v2069, e2070⟩ : ∃ v, M2040 9 2 = v := ⟨_, rfl⟩
          have h2071 := (bf_9_2 hP2041).1; rw [e2070] at h2071
          have h2072 := (bf_9_2 hP2041).2; rw [e2070] at h2072
          obtain ⟨v2073, e2074⟩ : ∃ v, M2040 6 4 = v := ⟨_, rfl⟩
          have h2075 := (bf_6_4 hP2041).1; rw [e2074] at h2075
          have h2076 := (bf_6_4 hP2041).2; rw [e2074] at h2076
          obtain ⟨v2077, e2078⟩ : ∃ v, M2040 6 5 = v := ⟨_, rfl⟩
          have h2079 := (bf_6_5 hP2041).1; rw [e2078] at h2079
          have h2080 := (bf_6_5 hP2041).2; rw [e2078] at h2080
          obtain ⟨v2081, e2082⟩ : ∃ v, M2040 7 2 = v := ⟨_, rfl⟩
          have h2083 := (bf_7_2 hP2041).1; rw [e2082] at h2083
          have h2084 := (bf_7_2 hP2041).2; rw [e2082] at h2084
          obtain ⟨v2085, e2086⟩ : ∃ v, M2040 7 3 = v := ⟨_, rfl⟩
          have h2087 := (bf_7_3 hP2041).1; rw [e2086] at h2087
          have h2088 := (bf_7_3 hP2041).2; rw [e2086] at h2088
          obtain ⟨v2089, e2090⟩ : ∃ v, M2040 7 5 = v := ⟨_, rfl⟩
          have h2091 := (bf_7_5 hP2041).1; rw [e2090] at h2091
          have h2092 := (bf_7_5 hP2041).2; rw [e2090] at h2092
          obtain ⟨v2093, e2094⟩ : ∃ v, M2040 7 6 = v := ⟨_, rfl⟩
          have h2095 := (bf_7_6 hP2041).1; rw [e2094] at h2095
          have h2096 := (bf_7_6 hP2041).2; rw [e2094] at h2096
          obtain ⟨u2097, hu2098⟩ : ∃ u : Int → Int, ∀ k, M2040 8 k = u k := ⟨fun k => M2040 8 k, fun k => rfl⟩
          have dm2 : ∀ k : Int, 0 ≤ k → k < 7 → 1 ≤ u2097 k := fun k a b => by rw [← hu2098 k]; exact xh2058 k a b
          refine wk_ifeq r169_51 ⟨by omega, by omega⟩ ?_ ?_
          · intro h2099
            clear h2054 h2055 h2056 h2057
            refine wk_c1 r169_67 (wk_is3 r169_68 rfl (wk_inc4 r169_69 rfl (wk_goto r169_72 ?_)))
            exact wp_fg (le_s (le_s (le_s (le_s (le_s le_0))))) (ih2140 (500 - (v1909 + 1)).toNat (by omega) M2040 0 (v1909 + 1) v2081 v2085 v2089 v2093 v2065 v2069 v2073 v2077 rfl hP2041 hF2043 e2082 e2086 e2090 e2094 e2066 e2070 e2074 e2078 ((hQ2042.at g_9_1 rfl).trans e1947) ((hQ2042.at g_6_3 rfl).trans e1948) ((hQ2042.at g_7_1 rfl).trans e1949) (by first | with_reducible assumption | omega) (by first | with_reducible assumption | omega) (by first | with_reducible assumption | omega) (by first | with_reducible assumption | omega) (by first | with_reducible assumption | omega) (by first | with_reducible assumption | omega) (by first | with_reducible assumption | omega) (by first | with_reducible assumption | omega) (by first | with_reducible assumption | omega) (by first | with_reducible assumption | omega) (by first | with_reducible assumption | omega) (by first | with_reducible assumption | omega) (by first | with_reducible assumption | omega) (by first | with_reducible assumption | omega) (by first | with_reducible assumption | omega) (by first | with_reducible assumption | omega) (by first | with_reducible assumption | omega) (by first | with_reducible assumption | omega) (by first | with_reducible assumption | omega) (by first | with_reducible assumption | omega) pr2060 pr2061 (by first | with_reducible assumption | omega) (by first | with_reducible assumption | omega) (by first | with_reducible assumption | omega) (by first | with_reducible assumption | omega) (by first | with_reducible assumption | omega) (by first | with_reducible assumption | omega) (fun k a b => by rw [hu2098 k]; exact dm2 k a b) (RX_b hg9 (I_f (or_r xh2059 (by omega)) (by omega) (by omega)) (by omega)))
          · intro h2100
            replace h2054 := h2054 (z1_of h2063 h2064 h2100)
            replace h2055 := h2055 (z1_of h2063 h2064 h2100)
            replace h2056 := h2056 (z1_of h2063 h2064 h2100)
            replace h2057 := h2057 (z1_of h2063 h2064 h2100)
            have r5 := or_l xh2059 (by omega); rw [e2066, e2082, e2086, e2090, e2094] at r5
            refine wk_al0 r169_54 (wk_c2 r169_55 (wk_cv2 r169_57 kc_6_174 rfl (m7174_6 _ M2040 59 p1 v2065 v2069 v2073 v2077 T hP2041 (by decide) (by decide) ((hQ2042.at g_9_1 rfl).trans e1947) (by first | with_reducible assumption | omega) (by first | with_reducible assumption | omega) e2066 (by first | with_reducible assumption | omega) (by first | with_reducible assumption | omega) e2070 (by first | with_reducible assumption | omega) (by first | with_reducible assumption | omega) e2074 (by first | with_reducible assumption | omega) (by first | with_reducible assumption | omega) e2078 (by first | with_reducible assumption | omega) (by first | with_reducible assumption | omega) (by omega) (by omega) (by omega) pr2060 pr2061) (cqI ?_)))
            rintro v2118 M2101 ⟨hP2102, hQ2103, h2119, h2120, h2105, h2106, h2107, h2108, h2109, h2110, h2111, h2112, h2113, h2114, xh2115, pr2116, pr2117⟩
            have hF2104 : Fr fm_m7169_6 M0 M2101 := hF2043.tr hQ2103 rfl
            obtain ⟨v2121, e2122⟩ : ∃ v, M2101 9 3 = v := ⟨_, rfl⟩
            have h2123 := (bf_9_3 hP2102).1; rw [e2122] at h2123
            have h2124 := (bf_9_3 hP2102).2; rw [e2122] at h2124
            obtain ⟨v2125, e2126⟩ : ∃ v, M2101 9 2 = v := ⟨_, rfl⟩
            have h2127 := (bf_9_2 hP2102).1; rw [e2126] at h2127
            have h2128 := (bf_9_2 hP2102).2; rw [e2126] at h2128
            obtain ⟨v2129, e2130⟩ : ∃ v, M2101 6 4 = v := ⟨_, rfl⟩
            have h2131 := (bf_6_4 hP2102).1; rw [e2130] at h2131
            have h2132 := (bf_6_4 hP2102).2; rw [e2130] at h2132
            obtain ⟨v2133, e2134⟩ : ∃ v, M2101 6 5 = v := ⟨_, rfl⟩
            have h2135 := (bf_6_5 hP2102).1; rw [e2134] at h2135
            have h2136 := (bf_6_5 hP2102).2; rw [e2134] at h2136
            refine wk_ifeq r169_60 ⟨by omega, by omega⟩ ?_ ?_
            · intro h2137
              clear h2111 h2112 h2113 h2114
              refine wk_c1 r169_67 (wk_is3 r169_68 rfl (wk_inc4 r169_69 rfl (wk_goto r169_72 ?_)))
              exact wp_fg (le_s (le_s (le_s (le_s (le_s le_0))))) (ih2140 (500 - (v1909 + 1)).toNat (by omega) M2101 0 (v1909 + 1) v2081 v2085 v2089 v2093 v2121 v2125 v2129 v2133 rfl hP2102 hF2104 ((hQ2103.at g_7_2 rfl).trans e2082) ((hQ2103.at g_7_3 rfl).trans e2086) ((hQ2103.at g_7_5 rfl).trans e2090) ((hQ2103.at g_7_6 rfl).trans e2094) e2122 e2126 e2130 e2134 ((hQ2103.at g_9_1 rfl).trans ((hQ2042.at g_9_1 rfl).trans e1947)) ((hQ2103.at g_6_3 rfl).trans ((hQ2042.at g_6_3 rfl).trans e1948)) ((hQ2103.at g_7_1 rfl).trans ((hQ2042.at g_7_1 rfl).trans e1949)) (by first | with_reducible assumption | omega) (by first | with_reducible assumption | omega) (by first | with_reducible assumption | omega) (by first | with_reducible assumption | omega) (by first | with_reducible assumption | omega) (by first | with_reducible assumption | omega) (by first | with_reducible assumption | omega) (by first | with_reducible assumption | omega) (by first | with_reducible assumption | omega) (by first | with_reducible assumption | omega) (by first | with_reducible assumption | omega) (by first | with_reducible assumption | omega) (by first | with_reducible assumption | omega) (by first | with_reducible assumption | omega) (by first | with_reducible assumption | omega) (by first | with_reducible assumption | omega) (by first | with_reducible assumption | omega) (by first | with_reducible assumption | omega) (by first | with_reducible assumption | omega) (by first | with_reducible assumption | omega) pr2116 pr2117 (by first | with_reducible assumption | omega) (by first | with_reducible assumption | omega) (by first | with_reducible assumption | omega) (by first | with_reducible assumption | omega) (by first | with_reducible assumption | omega) (by first | with_reducible assumption | omega) (fun k a b => by rw [(fun k => (hQ2103.at (ga_8 k) rfl).trans (hu2098 k)) k]; exact dm2 k a b) (RX_b hg9 (s_n r5 (by omega) (by omega) (by omega)) (by omega)))
            · intro h2138
              replace h2111 := h2111 (z1_of h2119 h2120 h2138)
              replace h2112 := h2112 (z1_of h2119 h2120 h2138)
              replace h2113 := h2113 (z1_of h2119 h2120 h2138)
              replace h2114 := h2114 (z1_of h2119 h2120 h2138)
              have h2139 : v2065 + 1 ≤ v2121 := by omega
              refine wk_c1 r169_63 (wk_goto r169_64 (wk_is3 r169_68 rfl (wk_inc4 r169_69 rfl (wk_goto r169_72 ?_))))
              exact wp_fg (le_s (le_s (le_s (le_s (le_s le_0))))) (ih2140 (500 - (v1909 + 1)).toNat (by omega) M2101 1 (v1909 + 1) v2081 v2085 v2089 v2093 v2121 v2125 v2129 v2133 rfl hP2102 hF2104 ((hQ2103.at g_7_2 rfl).trans e2082) ((hQ2103.at g_7_3 rfl).trans e2086) ((hQ2103.at g_7_5 rfl).trans e2090) ((hQ2103.at g_7_6 rfl).trans e2094) e2122 e2126 e2130 e2134 ((hQ2103.at g_9_1 rfl).trans ((hQ2042.at g_9_1 rfl).trans e1947)) ((hQ2103.at g_6_3 rfl).trans ((hQ2042.at g_6_3 rfl).trans e1948)) ((hQ2103.at g_7_1 rfl).trans ((hQ2042.at g_7_1 rfl).trans e1949)) (by first | with_reducible assumption | omega) (by first | with_reducible assumption | omega) (by first | with_reducible assumption | omega) (by first | with_reducible assumption | omega) (by first | with_reducible assumption | omega) (by first | with_reducible assumption | omega) (by first | with_reducible assumption | omega) (by first | with_reducible assumption | omega) (by first | with_reducible assumption | omega) (by first | with_reducible assumption | omega) (by first | with_reducible assumption | omega) (by first | with_reducible assumption | omega) (by first | with_reducible assumption | omega) (by first | with_reducible assumption | omega) (by first | with_reducible assumption | omega) (by first | with_reducible assumption | omega) (by first | with_reducible assumption | omega) (by first | with_reducible assumption | omega) (by first | with_reducible assumption | omega) (by first | with_reducible assumption | omega) pr2116 pr2117 (by first | with_reducible assumption | omega) (by first | with_reducible assumption | omega) (by first | with_reducible assumption | omega) (by first | with_reducible assumption | omega) (by first | with_reducible assumption | omega) (by first | with_reducible assumption | omega) (fun k a b => by rw [(fun k => (hQ2103.at (ga_8 k) rfl).trans (hu2098 k)) k]; exact dm2 k a b) (RX_g hg9 (I_c (s_y (s := v2065) (s1 := v2121) r5 (by omega) (by omega)) rfl rfl rfl rfl rfl rfl rfl (nr_eq (fun k _ _ => ((fun k => (hQ2103.at (ga_8 k) rfl).trans (hu2098 k)) k).trans (hu2098 k).symm))) (by omega) (by omega)))
  exact wp_fg (le_s (le_n (le_n (le_s (le_s le_0))))) (c25_2140 _ M78 v99 0 v52 v56 v60 v64 v102 v106 v110 v114 rfl hP79 hF81 ((hQ80.at g_7_2 rfl).trans ((hQ72.at g_7_2 rfl).trans e53)) ((hQ80.at g_7_3 rfl).trans ((hQ72.at g_7_3 rfl).trans e57)) ((hQ80.at g_7_5 rfl).trans ((hQ72.at g_7_5 rfl).trans e61)) ((hQ80.at g_7_6 rfl).trans ((hQ72.at g_7_6 rfl).trans e65)) e103 e107 e111 e115 ((hQ80.at g_9_1 rfl).trans ((hQ72.at g_9_1 rfl).trans ((hQ40.at g_9_1 rfl).trans e19))) e119 e123 (by first | with_reducible assumption | omega) (by first | with_reducible assumption | omega) (by first | with_reducible assumption | omega) (by first | with_reducible assumption | omega) (by first | with_reducible assumption | omega) (by first | with_reducible assumption | omega) (by first | with_reducible assumption | omega) (by first | with_reducible assumption | omega) (by first | with_reducible assumption | omega) (by first | with_reducible assumption | omega) (by first | with_reducible assumption | omega) (by first | with_reducible assumption | omega) (by first | with_reducible assumption | omega) (by first | with_reducible assumption | omega) (by first | with_reducible assumption | omega) (by first | with_reducible assumption | omega) (by first | with_reducible assumption | omega) (by first | with_reducible assumption | omega) (by first | with_reducible assumption | omega) (by first | with_reducible assumption | omega) pr97 pr98 (by first | with_reducible assumption | omega) (by first | with_reducible assumption | omega) (by first | with_reducible assumption | omega) (by first | with_reducible assumption | omega) (by first | with_reducible assumption | omega) (by first | with_reducible assumption | omega) (fun k a b => by rw [(fun k => (hQ80.at (ga_8 k) rfl).trans ((fun k => (hQ72.at (ga_8 k) rfl).trans (hu69 k)) k)) k]; exact dm0 k a b) (RX_i (v := v22) (by have q8 := xh96; rw [e119, e103, e123, e111, e115] at q8; exact q8) hs0 (dg1_mk (by omega) (by omega) (by omega) (by omega) (fun k => by rw [(fun k => (hQ80.at (ga_8 k) rfl).trans ((fun k => (hQ72.at (ga_8 k) rfl).trans (hu69 k)) k)) k]; exact hu3 k))))
