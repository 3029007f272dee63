def fg_RC : Nat := 11419375338222587212861178291500692446662153216
def fm_n7183_7 : Nat := 139637976727552
/-- IslandHall$Plan.reset -/
theorem n7183_7 {B : eB} (d : Nat) (M0 : Mm) (hP0 : Pw M0)  : Ct B (d + 2) 183 [R 7] M0 (qV fun M => Pw M ∧ Fr fm_n7183_7 M0 M ∧ 0 ≤ M 7 2 + (-1) ∧ 0 ≤ M 7 3 + 1 ∧ 0 ≤ M 7 5 + 0 ∧ 0 ≤ M 7 6 + 0 ∧ 0 ≤ (-1) * (M 7 2) + 1 ∧ 0 ≤ (-1) * (M 7 3) + (-1) ∧ 0 ≤ (-1) * (M 7 5) + 0 ∧ 0 ≤ (-1) * (M 7 6) + 0 ∧ 0 ≤ M 7 4 ∧ 0 ≤ (-1) * (M 7 4) ∧ (∀ k : Int, M 8 k = 3) ∧ (∀ k : Int, 0 ≤ k → k < 7 → 1 ≤ M 8 k)) := by
  refine ct_of (d := d + 1) (k := 0) (L := [some (R 7)]) rfl rfl rfl ?_
  have hF0 := Fr.rf fm_n7183_7 M0
  generalize hQ : (qV fun M => Pw M ∧ Fr fm_n7183_7 M0 M ∧ 0 ≤ M 7 2 + (-1) ∧ 0 ≤ M 7 3 + 1 ∧ 0 ≤ M 7 5 + 0 ∧ 0 ≤ M 7 6 + 0 ∧ 0 ≤ (-1) * (M 7 2) + 1 ∧ 0 ≤ (-1) * (M 7 3) + (-1) ∧ 0 ≤ (-1) * (M 7 5) + 0 ∧ 0 ≤ (-1) * (M 7 6) + 0 ∧ 0 ≤ M 7 4 ∧ 0 ≤ (-1) * (M 7 4) ∧ (∀ k : Int, M 8 k = 3) ∧ (∀ k : Int, 0 ≤ k → k < 7 → 1 ≤ M 8 k)) = Q
  refine wk_al0 r183_0 (wk_getfr r183_1 fd_7_0 (br_7_0 hP0) (wk_c1 r183_4 (wk_cs102_2 r183_5 rfl (ct_fi ar_8) (cqV ?_))))
  intro M1 e2
  have hP3 : Pw M1 := by rw [e2]; exact hP0.fil (fun i => (ua_8 (by decide)))
  have hF4 : Fr fm_n7183_7 M0 M1 := by rw [e2]; exact hF0.fil (fun i => by rw [(ga_8 i)]; rfl)
  obtain ⟨u5, hu6⟩ : ∃ u : Int → Int, ∀ k, M1 8 k = u k := ⟨fun k => M1 8 k, fun k => rfl⟩
  have dm : ∀ k : Int, u5 k = 3 := fun k => by rw [← hu6 k, e2, fil_eq]
  refine wk_al0 r183_8 (wk_c1 r183_9 (wk_putfi81 r183_10 fd_7_1 (wk_nw g_7_1 rfl hP3 hF4 (uf_7_1 (by decide)) ?_)))
  intro M7 hP8 hF9 e10
  refine wk_al0 r183_13 (wk_c1 r183_14 (wk_putfi81 r183_15 fd_7_2 (wk_nw g_7_2 rfl hP8 hF9 (uf_7_2 (by decide)) ?_)))
  intro M11 hP12 hF13 e14
  refine wk_al0 r183_18 (wk_c1 r183_19 (wk_putfi81 r183_20 fd_7_3 (wk_nw g_7_3 rfl hP12 hF13 (uf_7_3 (by decide)) ?_)))
  intro M15 hP16 hF17 e18
  refine wk_al0 r183_23 (wk_c1 r183_24 (wk_putfi81 r183_25 fd_7_4 (wk_nw g_7_4 rfl hP16 hF17 (uf_7_4 (by decide)) ?_)))
  intro M19 hP20 hF21 e22
  refine wk_al0 r183_28 (wk_c1 r183_29 (wk_putfz81 r183_30 fd_7_5 (by decide) (wk_nw g_7_5 rfl hP20 hF21 (uf_7_5 (by decide)) ?_)))
  intro M23 hP24 hF25 e26
  refine wk_al0 r183_33 (wk_c1 r183_34 (wk_putfz81 r183_35 fd_7_6 (by decide) (wk_nw g_7_6 rfl hP24 hF25 (uf_7_6 (by decide)) ?_)))
  intro M27 hP28 hF29 e30
  subst hQ; exact wk_ret r183_38 (⟨rfl, hP28, hF29, by have := (mUp_no e30 (mUp_no e26 (mUp_no e22 (mUp_no e18 (mUp_at e14) (Or.inr (by decide))) (Or.inr (by decide))) (Or.inr (by decide))) (Or.inr (by decide))); omega, by have := (mUp_no e30 (mUp_no e26 (mUp_no e22 (mUp_at e18) (Or.inr (by decide))) (Or.inr (by decide))) (Or.inr (by decide))); omega, by have := (mUp_no e30 (mUp_at e26) (Or.inr (by decide))); omega, by have := (mUp_at e30); omega, by have := (mUp_no e30 (mUp_no e26 (mUp_no e22 (mUp_no e18 (mUp_at e14) (Or.inr (by decide))) (Or.inr (by decide))) (Or.inr (by decide))) (Or.inr (by decide))); omega, by have := (mUp_no e30 (mUp_no e26 (mUp_no e22 (mUp_at e18) (Or.inr (by decide))) (Or.inr (by decide))) (Or.inr (by decide))); omega, by have := (mUp_no e30 (mUp_at e26) (Or.inr (by decide))); omega, by have := (mUp_at e30); omega, by have := (mUp_no e30 (mUp_no e26 (mUp_at e22) (Or.inr (by decide))) (Or.inr (by decide))); omega, by have := (mUp_no e30 (mUp_no e26 (mUp_at e22) (Or.inr (by decide))) (Or.inr (by decide))); omega, fun k => by rw [(fun k => mUp_no e30 ((fun k => mUp_no e26 ((fun k => mUp_no e22 ((fun k => mUp_no e18 ((fun k => mUp_no e14 ((fun k => mUp_no e10 (hu6 k) (Or.inl (by decide))) k) (Or.inl (by decide))) k) (Or.inl (by decide))) k) (Or.inl (by decide))) k) (Or.inl (by decide))) k) (Or.inl (by decide))) k, dm k], fun k a b => by rw [(fun k => mUp_no e30 ((fun k => mUp_no e26 ((fun k => mUp_no e22 ((fun k => mUp_no e18 ((fun k => mUp_no e14 ((fun k => mUp_no e10 (hu6 k) (Or.inl (by decide))) k) (Or.inl (by decide))) k) (Or.inl (by decide))) k) (Or.inl (by decide))) k) (Or.inl (by decide))) k) (Or.inl (by decide))) k, dm k]; decide⟩)
def fm_n7144 : Nat := 8053063680
/-- IslandHall$Code.startFacts -/
theorem n7144 {B : eB} (d : Nat) (M0 : Mm) (c0 : Int) (hP0 : Pw M0) (hC0 : isC c0) : Ct B (d + 2) 144 [R c0] M0 (qV fun M => Pw M ∧ Fr fm_n7144 M0 M ∧ (∀ c : Int, isC c → c ≠ c0 → CL M c = CL M0 c) ∧ (CL M c0 = [8 * 118])) := by
  refine ct_of (d := d + 1) (k := 0) (L := [some (R c0)]) rfl rfl rfl ?_
  have hF0 := Fr.rf fm_n7144 M0
  generalize hQ : (qV fun M => Pw M ∧ Fr fm_n7144 M0 M ∧ (∀ c : Int, isC c → c ≠ c0 → CL M c = CL M0 c) ∧ (CL M c0 = [8 * 118])) = Q
  refine wk_al0 r144_0 (wk_cv1 r144_1 (kcC_141 hC0) rfl (n7141 _ M0 c0 hP0 hC0) (cqV ?_))
  rintro M1 ⟨hP2, hQ3, xh5, xh6⟩
  have hF4 : Fr fm_n7144 M0 M1 := hF0.tr hQ3 rfl
  refine wk_al0 r144_4 (wk_c1 r144_5 (wk_c2 r144_6 (wk_cv3 r144_8 (kcC_138 hC0) rfl (n7138 _ M1 c0 0 118 hP2 hC0 (by decide) (by decide) (by decide) (by decide) (by first | assumption | omega | (unfold stepok; omega))) (cqV ?_))))
  rintro M7 ⟨hP8, hQ9, xh11, xh12⟩
  have hF10 : Fr fm_n7144 M0 M7 := hF4.tr hQ9 rfl
  subst hQ; exact wk_ret r144_11 (⟨rfl, hP8, hF10, fun c hc hn => (xh11 c hc hn).trans (xh5 c hc hn), (xh12 (CL0_lt xh6)).trans (by rw [xh6]; rfl)⟩)
def fm_n7160_6 : Nat := 3942230221914112
/-- IslandHall$Parser.head -/
theorem n7160_6 {B : eB} (d : Nat) (M0 : Mm) (x9_1 : Int) (x9_3 : Int) (x9_2 : Int) (x6_4 : Int) (x6_5 : Int) (x6_3 : Int) (T : Int → Int) (hP0 : Pw M0) (ex9_1 : M0 9 1 = x9_1) (lx9_1 : 0 ≤ x9_1) (ux9_1 : x9_1 ≤ 500) (ex9_3 : M0 9 3 = x9_3) (lx9_3 : 0 ≤ x9_3) (ux9_3 : x9_3 ≤ 500) (ex9_2 : M0 9 2 = x9_2) (lx9_2 : 0 ≤ x9_2) (ux9_2 : x9_2 ≤ 500) (ex6_4 : M0 6 4 = x6_4) (lx6_4 : 0 ≤ x6_4) (ux6_4 : x6_4 ≤ 6) (ex6_5 : M0 6 5 = x6_5) (lx6_5 : (-1) ≤ x6_5) (ux6_5 : x6_5 ≤ 500) (ex6_3 : M0 6 3 = x6_3) (lx6_3 : (-1) ≤ x6_3) (ux6_3 : x6_3 ≤ 7) (rp0 : 0 ≤ x9_1 + (-1) * x9_2) (rp1 : 0 ≤ x9_2 + (-1) * x9_3) (rp2 : 0 ≤ x9_1 + (-1) * x9_3) (pp_TX : TXP T M0) (pp_TC : TCP T M0) : Ct B (d + 4) 160 [R 6] M0 (qI fun z M => Pw M ∧ Fr fm_n7160_6 M0 M ∧ 0 ≤ z ∧ z ≤ 1 ∧ 0 ≤ M 9 3 + (-1) * x9_3 ∧ 0 ≤ x9_1 + (-1) * (M 9 3) ∧ 0 ≤ x9_1 + (-1) * (M 9 2) ∧ 0 ≤ M 9 2 + (-1) * (M 9 3) ∧ 0 ≤ M 6 4 ∧ 0 ≤ M 6 5 + 1 ∧ 0 ≤ M 6 3 + 1 ∧ 0 ≤ M 7 1 + 1 ∧ 0 ≤ (-1) * (M 6 5) + x6_5 + (-600) * z + 600 ∧ 0 ≤ (-1) * (M 6 4) + x6_4 + (-10) * z + 10 ∧ (z = 1 → 0 ≤ M 6 4 + (-1) * x6_4) ∧ (z = 1 → 0 ≤ (-1) * (M 6 4) + x6_4) ∧ (z = 1 → 0 ≤ M 6 5 + (-1) * x6_5) ∧ (z = 1 → 0 ≤ (-1) * (M 6 5) + x6_5) ∧ ((z = 1 ∧ HDg T x9_1 x9_3 (M 6 3) (M 9 3) ∧ M 7 1 = M 6 3) ∨ (z = 0 ∧ HDf T x9_1 x9_3 (M 6 4) (M 6 5))) ∧ (TXP T M) ∧ (TCP T M)) := by
  refine ct_of (d := d + 3) (k := 0) (L := [some (R 6)]) rfl rfl rfl ?_
  have hF0 := Fr.rf fm_n7160_6 M0
  generalize hQ : (qI fun z M => Pw M ∧ Fr fm_n7160_6 M0 M ∧ 0 ≤ z ∧ z ≤ 1 ∧ 0 ≤ M 9 3 + (-1) * x9_3 ∧ 0 ≤ x9_1 + (-1) * (M 9 3) ∧ 0 ≤ x9_1 + (-1) * (M 9 2) ∧ 0 ≤ M 9 2 + (-1) * (M 9 3) ∧ 0 ≤ M 6 4 ∧ 0 ≤ M 6 5 + 1 ∧ 0 ≤ M 6 3 + 1 ∧ 0 ≤ M 7 1 + 1 ∧ 0 ≤ (-1) * (M 6 5) + x6_5 + (-600) * z + 600 ∧ 0 ≤ (-1) * (M 6 4) + x6_4 + (-10) * z + 10 ∧ (z = 1 → 0 ≤ M 6 4 + (-1) * x6_4) ∧ (z = 1 → 0 ≤ (-1) * (M 6 4) + x6_4) ∧ (z = 1 → 0 ≤ M 6 5 + (-1) * x6_5) ∧ (z = 1 → 0 ≤ (-1) * (M 6 5) + x6_5) ∧ ((z = 1 ∧ HDg T x9_1 x9_3 (M 6 3) (M 9 3) ∧ M 7 1 = M 6 3) ∨ (z = 0 ∧ HDf T x9_1 x9_3 (M 6 4) (M 6 5))) ∧ (TXP T M) ∧ (TCP T M)) = Q
  refine wk_al0 r160_0 (wk_c8 r160_1 (wk_cv2 r160_3 kc_6_175 rfl (n7175_6 _ M0 4127 x9_1 x9_3 x9_2 T hP0 (by decide) ex9_1 (by first | with_reducible assumption | omega) (by first | with_reducible assumption | omega) ex9_3 (by first | with_reducible assumption | omega) (by first | with_reducible assumption | omega) ex9_2 (by first | with_reducible assumption | omega) (by first | with_reducible assumption | omega) (by omega) (by omega) (by omega) (by first | assumption | omega | (unfold stepok; omega)) pp_TX pp_TC) (cqI ?_)))
  rintro v13 M1 ⟨hP2, hQ3, h14, h15, h5, h6, h7, h8, h9, xh10, pr11, pr12⟩
  have hF4 : Fr fm_n7160_6 M0 M1 := hF0.tr hQ3 rfl
  obtain ⟨v16, e17⟩ : ∃ v, M1 9 3 = v := ⟨_, rfl⟩
  have h18 := (bf_9_3 hP2).1; rw [e17] at h18
  have h19 := (bf_9_3 hP2).2; rw [e17] at h19
  obtain ⟨v20, e21⟩ : ∃ v, M1 9 2 = v := ⟨_, rfl⟩
  have h22 := (bf_9_2 hP2).1; rw [e21] at h22
  have h23 := (bf_9_2 hP2).2; rw [e21] at h23
  rw [show wix 4127 = 5 from rfl] at xh10
  refine wk_ifne r160_6 ⟨by omega, by omega⟩ ?_ ?_
  · intro h24
    replace h9 := h9 (z1_of h14 h15 h24)
    refine wk_al0 r160_15 (wk_al0 r160_16 (wk_c1 r160_17 (wk_c2 r160_18 (wk_cv3 r160_20 kc_6_167 rfl (n7167_6 _ M1 0 7 x9_1 v16 v20 x6_4 x6_5 T hP2 (by decide) (by decide) (by decide) (by decide) ((hQ3.at g_9_1 rfl).trans ex9_1) (by first | with_reducible assumption | omega) (by first | with_reducible assumption | omega) e17 (by first | with_reducible assumption | omega) (by first | with_reducible assumption | omega) e21 (by first | with_reducible assumption | omega) (by first | with_reducible assumption | omega) ((hQ3.at g_6_4 rfl).trans ex6_4) (by first | with_reducible assumption | omega) (by first | with_reducible assumption | omega) ((hQ3.at g_6_5 rfl).trans ex6_5) (by first | with_reducible assumption | omega) (by first | with_reducible assumption | omega) (by omega) (by omega) (by omega) pr11 pr12) (cqI ?_)))))
    rintro v39 M25 ⟨hP26, hQ27, h40, h41, h29, h30, h31, h32, h33, h34, h35, xh36, pr37, pr38⟩
    have hF28 : Fr fm_n7160_6 M0 M25 := hF4.tr hQ27 rfl
    obtain ⟨v42, e43⟩ : ∃ v, M25 9 3 = v := ⟨_, rfl⟩
    have h44 := (bf_9_3 hP26).1; rw [e43] at h44
    have h45 := (bf_9_3 hP26).2; rw [e43] at h45
    obtain ⟨v46, e47⟩ : ∃ v, M25 9 2 = v := ⟨_, rfl⟩
    have h48 := (bf_9_2 hP26).1; rw [e47] at h48
    have h49 := (bf_9_2 hP26).2; rw [e47] at h49
    obtain ⟨v50, e51⟩ : ∃ v, M25 6 4 = v := ⟨_, rfl⟩
    have h52 := (bf_6_4 hP26).1; rw [e51] at h52
    have h53 := (bf_6_4 hP26).2; rw [e51] at h53
    obtain ⟨v54, e55⟩ : ∃ v, M25 6 5 = v := ⟨_, rfl⟩
    have h56 := (bf_6_5 hP26).1; rw [e55] at h56
    have h57 := (bf_6_5 hP26).2; rw [e55] at h57
    refine wk_putfi81 r160_23 fd_6_3 (wk_nw g_6_3 rfl hP26 hF28 (uf_6_3 ⟨by omega, by omega⟩) ?_)
    intro M58 hP59 hF60 e61
    refine wk_al0 r160_26 (wk_getfr r160_27 fd_6_1 (br_6_1 hP59) (wk_al0 r160_30 (wk_getfi r160_31 fd_6_3 (mUp_at e61) (wk_putfi81 r160_34 fd_7_1 (wk_nw g_7_1 rfl hP59 hF60 (uf_7_1 ⟨by omega, by omega⟩) ?_)))))
    intro M62 hP63 hF64 e65
    refine wk_al0 r160_37 (wk_getfi r160_38 fd_6_3 (mUp_no e65 (mUp_at e61) (Or.inl (by decide))) (wk_c1 r160_41 ?_))
    refine wk_iceq r160_42 ⟨by omega, by omega⟩ (by decide) ?_ ?_
    · intro h66
      refine wk_c1 r160_58 ?_
      subst hQ; exact wk_zret r160_59 (by decide) (⟨rfl, _, rfl, hP63, hF64, by omega, by omega, by have := (mUp_no e65 (mUp_no e61 e43 (Or.inl (by decide))) (Or.inl (by decide))); omega, by have := (mUp_no e65 (mUp_no e61 e43 (Or.inl (by decide))) (Or.inl (by decide))); omega, by have := (mUp_no e65 (mUp_no e61 e47 (Or.inl (by decide))) (Or.inl (by decide))); omega, by have := (mUp_no e65 (mUp_no e61 e47 (Or.inl (by decide))) (Or.inl (by decide))); have := (mUp_no e65 (mUp_no e61 e43 (Or.inl (by decide))) (Or.inl (by decide))); omega, by have := (mUp_no e65 (mUp_no e61 e51 (Or.inr (by decide))) (Or.inl (by decide))); omega, by have := (mUp_no e65 (mUp_no e61 e55 (Or.inr (by decide))) (Or.inl (by decide))); omega, by have := (mUp_no e65 (mUp_at e61) (Or.inl (by decide))); omega, by have := (mUp_at e65); omega, by have := (mUp_no e65 (mUp_no e61 e55 (Or.inr (by decide))) (Or.inl (by decide))); omega, by have := (mUp_no e65 (mUp_no e61 e51 (Or.inr (by decide))) (Or.inl (by decide))); omega, by omega, by omega, by omega, by omega, Or.inr ⟨by omega, by rw [(mUp_no e65 (mUp_no e61 e51 (Or.inr (by decide))) (Or.inl (by decide))), (mUp_no e65 (mUp_no e61 e55 (Or.inr (by decide))) (Or.inl (by decide)))]; exact HD_2 (s1 := v16) (by omega) (by omega) (by omega)⟩, (TXP_sm (Sm.up e65 g_7_1 rfl) (TXP_sm (Sm.up e61 g_6_3 rfl) pr37)), (TCP_sm (Sm.up e65 g_7_1 rfl) (TCP_sm (Sm.up e61 g_6_3 rfl) pr38))⟩)
    · intro h67
      have h68 : v50 = x6_4 := by omega
      have h69 : v54 = x6_5 := by omega
      refine wk_al0 r160_45 (wk_c2 r160_46 (wk_cv2 r160_48 kc_6_174 rfl (n7174_6 _ M62 59 x9_1 v42 v46 v50 v54 T hP63 (by decide) (by decide) (mUp_no e65 (mUp_no e61 ((hQ27.at g_9_1 rfl).trans ((hQ3.at g_9_1 rfl).trans ex9_1)) (Or.inl (by decide))) (Or.inl (by decide))) (by first | with_reducible assumption | omega) (by first | with_reducible assumption | omega) (mUp_no e65 (mUp_no e61 e43 (Or.inl (by decide))) (Or.inl (by decide))) (by first | with_reducible assumption | omega) (by first | with_reducible assumption | omega) (mUp_no e65 (mUp_no e61 e47 (Or.inl (by decide))) (Or.inl (by decide))) (by first | with_reducible assumption | omega) (by first | with_reducible assumption | omega) (mUp_no e65 (mUp_no e61 e51 (Or.inr (by decide))) (Or.inl (by decide))) (by first | with_reducible assumption | omega) (by first | with_reducible assumption | omega) (mUp_no e65 (mUp_no e61 e55 (Or.inr (by decide))) (Or.inl (by decide))) (by first | with_reducible assumption | omega) (by first | with_reducible assumption | omega) (by omega) (by omega) (by omega) (TXP_sm (Sm.up e65 g_7_1 rfl) (TXP_sm (Sm.up e61 g_6_3 rfl) pr37)) (TCP_sm (Sm.up e65 g_7_1 rfl) (TCP_sm (Sm.up e61 g_6_3 rfl) pr38))) (cqI ?_)))
      rintro v87 M70 ⟨hP71, hQ72, h88, h89, h74, h75, h76, h77, h78, h79, h80, h81, h82, h83, xh84, pr85, pr86⟩
      have hF73 : Fr fm_n7160_6 M0 M70 := hF64.tr hQ72 rfl
      obtain ⟨v90, e91⟩ : ∃ v, M70 9 3 = v := ⟨_, rfl⟩
      have h92 := (bf_9_3 hP71).1; rw [e91] at h92
      have h93 := (bf_9_3 hP71).2; rw [e91] at h93
      obtain ⟨v94, e95⟩ : ∃ v, M70 9 2 = v := ⟨_, rfl⟩
      have h96 := (bf_9_2 hP71).1; rw [e95] at h96
      have h97 := (bf_9_2 hP71).2; rw [e95] at h97
      obtain ⟨v98, e99⟩ : ∃ v, M70 6 4 = v := ⟨_, rfl⟩
      have h100 := (bf_6_4 hP71).1; rw [e99] at h100
      have h101 := (bf_6_4 hP71).2; rw [e99] at h101
      obtain ⟨v102, e103⟩ : ∃ v, M70 6 5 = v := ⟨_, rfl⟩
      have h104 := (bf_6_5 hP71).1; rw [e103] at h104
      have h105 := (bf_6_5 hP71).2; rw [e103] at h105
      refine wk_ifeq r160_51 ⟨by omega, by omega⟩ ?_ ?_
      · intro h106
        clear h80 h81 h82 h83
        refine wk_c1 r160_58 ?_
        subst hQ; exact wk_zret r160_59 (by decide) (⟨rfl, _, rfl, hP71, hF73, by omega, by omega, by have := e91; omega, by have := e91; omega, by have := e95; omega, by have := e95; have := e91; omega, by have := e99; omega, by have := e103; omega, by have := ((hQ72.at g_6_3 rfl).trans (mUp_no e65 (mUp_at e61) (Or.inl (by decide)))); omega, by have := ((hQ72.at g_7_1 rfl).trans (mUp_at e65)); omega, by have := e103; omega, by have := e99; omega, by omega, by omega, by omega, by omega, Or.inr ⟨by omega, by rw [e99, e103]; exact HD_3 (s1 := v16) (s2 := v42) (by omega) (by omega) (by omega) (by omega)⟩, pr85, pr86⟩)
      · intro h107
        replace h80 := h80 (z1_of h88 h89 h107)
        replace h81 := h81 (z1_of h88 h89 h107)
        replace h82 := h82 (z1_of h88 h89 h107)
        replace h83 := h83 (z1_of h88 h89 h107)
        refine wk_c1 r160_54 (wk_goto r160_55 ?_)
        subst hQ; exact wk_zret r160_59 (by decide) (⟨rfl, _, rfl, hP71, hF73, by omega, by omega, by have := e91; omega, by have := e91; omega, by have := e95; omega, by have := e95; have := e91; omega, by have := e99; omega, by have := e103; omega, by have := ((hQ72.at g_6_3 rfl).trans (mUp_no e65 (mUp_at e61) (Or.inl (by decide)))); omega, by have := ((hQ72.at g_7_1 rfl).trans (mUp_at e65)); omega, by have := e103; omega, by have := e99; omega, by have := e99; omega, by have := e99; omega, by have := e103; omega, by have := e103; omega, Or.inl ⟨by omega, by rw [((hQ72.at g_6_3 rfl).trans (mUp_no e65 (mUp_at e61) (Or.inl (by decide)))), e91]; exact HD_g (s1 := v16) (s2 := v42) (by omega) (by omega) (by omega) (by omega), by rw [((hQ72.at g_7_1 rfl).trans (mUp_at e65)), ((hQ72.at g_6_3 rfl).trans (mUp_no e65 (mUp_at e61) (Or.inl (by decide))))]⟩, pr85, pr86⟩)
  · intro h108
    clear h9
    obtain rfl : x9_3 = v16 := by omega
    obtain rfl : x9_2 = v20 := by omega
    refine wk_al0 r160_9 (wk_c1 r160_10 (wk_cv2 r160_11 kc_6_159 rfl (n7159_6 _ M1 1 x9_3 hP2 (by decide) (by decide) e17 (by first | with_reducible assumption | omega) (by first | with_reducible assumption | omega)) (cqI ?_)))
    rintro v117 M109 ⟨hP110, hQ111, h118, h119, h113, h114, h115, h116⟩
    have hF112 : Fr fm_n7160_6 M0 M109 := hF4.tr hQ111 rfl
    obtain ⟨v120, e121⟩ : ∃ v, M109 6 4 = v := ⟨_, rfl⟩
    have h122 := (bf_6_4 hP110).1; rw [e121] at h122
    have h123 := (bf_6_4 hP110).2; rw [e121] at h123
    obtain ⟨v124, e125⟩ : ∃ v, M109 6 5 = v := ⟨_, rfl⟩
    have h126 := (bf_6_5 hP110).1; rw [e125] at h126
    have h127 := (bf_6_5 hP110).2; rw [e125] at h127
    subst hQ; exact wk_zret r160_14 ⟨by omega, by omega⟩ (⟨rfl, _, rfl, hP110, hF112, by omega, by omega, by have := ((hQ111.at g_9_3 rfl).trans e17); omega, by have := ((hQ111.at g_9_3 rfl).trans e17); omega, by have := ((hQ111.at g_9_2 rfl).trans e21); omega, by have := ((hQ111.at g_9_2 rfl).trans e21); have := ((hQ111.at g_9_3 rfl).trans e17); omega, by have := e121; omega, by have := e125; omega, by have := ((hQ111.at g_6_3 rfl).trans ((hQ3.at g_6_3 rfl).trans ex6_3)); omega, by have := (bf_7_1 hP110); omega, by have := e125; omega, by have := e121; omega, by omega, by omega, by omega, by omega, Or.inr ⟨by omega, by rw [e121, e125]; exact HD_1 (by omega)⟩, (TXP_sm (Sm.fr hQ111 rfl) pr11), (TCP_sm (Sm.fr hQ111 rfl) pr12)⟩)
def fm_n7179_7 : Nat := 0
/-- IslandHall$Plan.earliestDay -/
theorem n7179_7 {B : eB} (d : Nat) (M0 : Mm) (hP0 : Pw M0)  : Ct B (d + 1) 179 [R 7] M0 (qI fun z M => Pw M ∧ Fr fm_n7179_7 M0 M ∧ 0 ≤ z ∧ z ≤ 6 ∧ (z = eD M0 7)) := by
  refine ct_of (d := d + 0) (k := 0) (L := [some (R 7)]) rfl rfl rfl ?_
  have hF0 := Fr.rf fm_n7179_7 M0
  generalize hQ : (qI fun z M => Pw M ∧ Fr fm_n7179_7 M0 M ∧ 0 ≤ z ∧ z ≤ 6 ∧ (z = eD M0 7)) = Q
  refine wk_al0 r179_0 (wk_getfb r179_1 fd_7_3 (bf_7_3 hP0) ?_)
  intro v1 h3 h4 e2
  refine wk_c1 r179_4 ?_
  refine wk_icne r179_5 ⟨by omega, by omega⟩ (by decide) ?_ ?_
  · intro h5
    refine wk_al0 r179_12 (wk_getfi r179_13 fd_7_3 e2 ?_)
    subst hQ; exact wk_iret r179_16 (⟨rfl, _, rfl, hP0, hF0, by omega, by omega, by unfold eD; split <;> omega⟩)
  · intro h6
    refine wk_c1 r179_8 (wk_goto r179_9 ?_)
    subst hQ; exact wk_iret r179_16 (⟨rfl, _, rfl, hP0, hF0, by omega, by omega, by unfold eD; split <;> omega⟩)
def fm_n7181_7 : Nat := 0
/-- IslandHall$Plan.latestDay -/
theorem n7181_7 {B : eB} (d : Nat) (M0 : Mm) (hP0 : Pw M0)  : Ct B (d + 2) 181 [R 7] M0 (qI fun z M => Pw M ∧ Fr fm_n7181_7 M0 M ∧ 0 ≤ z ∧ z ≤ 6 ∧ (z = lD M0 7)) := by
  refine ct_of (d := d + 1) (k := 0) (L := [some (R 7)]) rfl rfl rfl ?_
  have hF0 := Fr.rf fm_n7181_7 M0
  generalize hQ : (qI fun z M => Pw M ∧ Fr fm_n7181_7 M0 M ∧ 0 ≤ z ∧ z ≤ 6 ∧ (z = lD M0 7)) = Q
  refine wk_al0 r181_0 (wk_getfb r181_1 fd_7_3 (bf_7_3 hP0) ?_)
  intro v1 h3 h4 e2
  refine wk_c1 r181_4 ?_
  refine wk_icne r181_5 ⟨by omega, by omega⟩ (by decide) ?_ ?_
  · intro h5
    refine wk_al0 r181_20 (wk_cv1 r181_21 kc_7_179 rfl (n7179_7 _ M0 hP0) (cqI ?_))
    rintro v11 M6 ⟨hP7, hQ8, h12, h13, xh10⟩
    obtain rfl := Fr.same hQ8
    subst hQ; exact wk_iret r181_24 (⟨rfl, _, rfl, hP0, hF0, by omega, by omega, by unfold lD; split <;> omega⟩)
  · intro h14
    refine wk_al0 r181_8 (wk_getfb r181_9 fd_7_5 (bf_7_5 hP0) ?_)
    intro v15 h17 h18 e16
    refine wk_ifeq r181_12 ⟨by omega, by omega⟩ ?_ ?_
    · intro h19
      refine wk_al0 r181_20 (wk_cv1 r181_21 kc_7_179 rfl (n7179_7 _ M0 hP0) (cqI ?_))
      rintro v25 M20 ⟨hP21, hQ22, h26, h27, xh24⟩
      obtain rfl := Fr.same hQ22
      subst hQ; exact wk_iret r181_24 (⟨rfl, _, rfl, hP0, hF0, by omega, by omega, by unfold lD; split <;> omega⟩)
    · intro h28
      refine wk_c2 r181_15 (wk_goto r181_17 ?_)
      subst hQ; exact wk_iret r181_24 (⟨rfl, _, rfl, hP0, hF0, by omega, by omega, by unfold lD; split <;> omega⟩)
def fm_n7182_7 : Nat := 0
/-- IslandHall$Plan.latestWord -/
theorem n7182_7 {B : eB} (d : Nat) (M0 : Mm) (hP0 : Pw M0)  : Ct B (d + 1) 182 [R 7] M0 (qI fun z M => Pw M ∧ Fr fm_n7182_7 M0 M ∧ 0 ≤ z ∧ z ≤ 1 ∧ (z = lW M0 7)) := by
  refine ct_of (d := d + 0) (k := 0) (L := [some (R 7)]) rfl rfl rfl ?_
  have hF0 := Fr.rf fm_n7182_7 M0
  generalize hQ : (qI fun z M => Pw M ∧ Fr fm_n7182_7 M0 M ∧ 0 ≤ z ∧ z ≤ 1 ∧ (z = lW M0 7)) = Q
  refine wk_al0 r182_0 (wk_getfb r182_1 fd_7_6 (bf_7_6 hP0) ?_)
  intro v1 h3 h4 e2
  refine wk_ifeq r182_4 ⟨by omega, by omega⟩ ?_ ?_
  · intro h5
    refine wk_c1 r182_11 ?_
    subst hQ; exact wk_iret r182_12 (⟨rfl, _, rfl, hP0, hF0, by omega, by omega, by unfold lW; split <;> omega⟩)
  · intro h6
    refine wk_c1 r182_7 (wk_goto r182_8 ?_)
    subst hQ; exact wk_iret r182_12 (⟨rfl, _, rfl, hP0, hF0, by omega, by omega, by unfold lW; split <;> omega⟩)
def fm_n7184_7 : Nat := 0
/-- IslandHall$Plan.size -/
theorem n7184_7 {B : eB} (d : Nat) (M0 : Mm) (hP0 : Pw M0)  : Ct B (d + 3) 184 [R 7] M0 (qI fun z M => Pw M ∧ Fr fm_n7184_7 M0 M ∧ (-1791590400) ≤ z ∧ z ≤ 1791590400 ∧ (z = SZk M0 7 8)) := by
  refine ct_of (d := d + 2) (k := 2) (L := [some (R 7), none, none]) rfl rfl rfl ?_
  have hF0 := Fr.rf fm_n7184_7 M0
  generalize hQ : (qI fun z M => Pw M ∧ Fr fm_n7184_7 M0 M ∧ (-1791590400) ≤ z ∧ z ≤ 1791590400 ∧ (z = SZk M0 7 8)) = Q
  refine wk_al0 r184_0 (wk_getfb r184_1 fd_7_2 (bf_7_2 hP0) ?_)
  intro v1 h3 h4 e2
  refine wk_al0 r184_4 (wk_cv1 r184_5 kc_7_181 rfl (n7181_7 _ M0 hP0) (cqI ?_))
  rintro v10 M5 ⟨hP6, hQ7, h11, h12, xh9⟩
  obtain rfl := Fr.same hQ7
  refine wk_al0 r184_8 (wk_cv1 r184_9 kc_7_179 rfl (n7179_7 _ M0 hP0) (cqI ?_))
  rintro v18 M13 ⟨hP14, hQ15, h19, h20, xh17⟩
  obtain rfl := Fr.same hQ15
  refine wk_isub r184_12 (wk_c1 r184_13 (wk_iadd r184_14 (wk_mula 4 7 r184_15 ⟨by omega, by omega⟩ ⟨by omega, by omega⟩ ?_)))
  intro v21 h22 h23 h24
  refine wk_al0 r184_16 (wk_cv1 r184_17 kc_7_182 rfl (n7182_7 _ M0 hP0) (cqI ?_))
  rintro v30 M25 ⟨hP26, hQ27, h31, h32, xh29⟩
  obtain rfl := Fr.same hQ27
  refine wk_c1 r184_20 (wk_iadd r184_21 (wk_mula 28 2 r184_22 ⟨by omega, by omega⟩ ⟨by omega, by omega⟩ ?_))
  intro v33 h34 h35 h36
  refine wk_is1 r184_23 rfl ?_
  have hRf : v33 = Rf M0 7 := by unfold Rf; rw [← xh9, ← xh17, ← xh29, e2, h36, h24]
  have hRb : -100 ≤ Rf M0 7 ∧ Rf M0 7 ≤ 100 := by rw [← hRf]; omega
  refine wk_c1 r184_24 (wk_is2 r184_25 rfl ?_)
  have c26_268 : ∀ (k268 : Nat) (v235 : Int) (v238 : Int), (7 - v238).toNat = k268 → (-1791590400) ≤ v235 → v235 ≤ 1791590400 → 0 ≤ v238 → v238 ≤ 7 → (v235 = Rf M0 7 * PS (fun k => M0 8 k) (v238).toNat) → (v238 ≤ M0 7 1 ∨ v238 = 0) → Wp B (d + 2) 184 26 [some (R 7), some (I v235), some (I v238)] [] M0 Q := by
    refine lp_ind ?_
    intro k268 ih268 v235 v238 hk268 h236 h237 h239 h240 ti241 ti242
    refine wk_il2 r184_26 (wk_al0 r184_27 (wk_getfb r184_28 fd_7_1 (bf_7_1 hP0) ?_))
    intro v243 h245 h246 e244
    refine wk_icge r184_31 ⟨by omega, by omega⟩ ⟨by omega, by omega⟩ ?_ ?_
    · intro h247
      refine wk_il1 r184_63 ?_
      subst hQ; exact wk_iret r184_64 (⟨rfl, _, rfl, hP0, hF0, by omega, by omega, by unfold SZk; rw [show (M0 7 1).toNat = (v238).toNat by have := ti242; omega]; exact ti241⟩)
    · intro h248
      refine wk_il1 r184_34 (wk_al0 r184_35 (wk_getfr r184_36 fd_7_0 (br_7_0 hP0) (wk_il2 r184_39 (wk_ialdb r184_40 ar_8 ⟨by omega, by omega⟩ (fun q0 q1 => ba_8 hP0 q0 q1) ?_))))
      intro v249 h251 h252 e250
      refine wk_cs102_1 r184_41 rfl (n7246 _ M0 v249 hP0 (by first | with_reducible assumption | omega) (by first | with_reducible assumption | omega)) (cqI ?_)
      rintro v258 M253 ⟨hP254, hQ255, h259, h260, xh257⟩
      obtain rfl := Fr.same hQ255
      refine wk_al0 r184_44 (wk_getfr r184_45 fd_7_0 (br_7_0 hP0) (wk_il2 r184_48 (wk_iald r184_49 ar_8 ⟨by omega, by omega⟩ e250 (wk_c1 r184_50 (wk_ishrc r184_51 ⟨by omega, by omega⟩ (by decide) pwl_2 (wk_c1 r184_52 (wk_iandc 1 2 r184_53 ⟨rfl, by decide⟩ rfl (wk_iadd r184_54 ?_))))))))
      have h263 := sz_rg (u := fun k => M0 8 k) (fun k a b => by have := ba_8 hP0 a b; omega) (R := Rf M0 7) (v := v235) (p := v238) (by omega) (by omega) hRb ti241
      refine wk_mula 27993600 64 r184_55 ⟨by omega, by omega⟩ ⟨by omega, by omega⟩ ?_
      intro v264 h265 h266 h267
      refine wk_is1 r184_56 rfl (wk_inc2 r184_57 rfl (wk_goto r184_60 ?_))
      exact wp_fg (le_s (le_s (le_s le_0))) (ih268 (7 - (v238 + 1)).toNat (by omega) v264 (v238 + 1) rfl (by first | with_reducible assumption | omega) (by first | with_reducible assumption | omega) (by first | with_reducible assumption | omega) (by first | with_reducible assumption | omega) (sz_back (by omega) ti241 (by show _ = bcF (M0 8 v238) + M0 8 v238 / 4 % 2; rw [e250]; omega) h267) (Or.inl (by omega)))
  exact wp_fg (le_s (le_s (le_s le_0))) (c26_268 _ v33 0 rfl (by first | with_reducible assumption | omega) (by first | with_reducible assumption | omega) (by first | with_reducible assumption | omega) (by first | with_reducible assumption | omega) (by rw [hRf]; exact (Int.mul_one _).symm) (Or.inr rfl))
def fm_n7162_6 : Nat := 3967450269876224
set_option maxHeartbeats 20000000 in
/-- IslandHall$Parser.liesClause -/
theorem n7162_6 {B : eB} (d : Nat) (M0 : Mm) (x9_1 : Int) (x9_3 : Int) (x9_2 : Int) (x6_4 : Int) (x6_5 : Int) (x6_3 : Int) (x7_2 : Int) (x7_3 : Int) (x7_4 : Int) (x7_5 : Int) (x7_6 : Int) (T : Int → Int) (i0 : Ig) (F : List Int) (hP0 : Pw M0) (ex9_1 : M0 9 1 = x9_1) (lx9_1 : 0 ≤ x9_1) (ux9_1 : x9_1 ≤ 500) (ex9_3 : M0 9 3 = x9_3) (lx9_3 : 0 ≤ x9_3) (ux9_3 : x9_3 ≤ 500) (ex9_2 : M0 9 2 = x9_2) (lx9_2 : 0 ≤ x9_2) (ux9_2 : x9_2 ≤ 500) (ex6_4 : M0 6 4 = x6_4) (lx6_4 : 0 ≤ x6_4) (ux6_4 : x6_4 ≤ 6) (ex6_5 : M0 6 5 = x6_5) (lx6_5 : (-1) ≤ x6_5) (ux6_5 : x6_5 ≤ 500) (ex6_3 : M0 6 3 = x6_3) (lx6_3 : (-1) ≤ x6_3) (ux6_3 : x6_3 ≤ 7) (ex7_2 : M0 7 2 = x7_2) (lx7_2 : (-1) ≤ x7_2) (ux7_2 : x7_2 ≤ 4) (ex7_3 : M0 7 3 = x7_3) (lx7_3 : (-1) ≤ x7_3) (ux7_3 : x7_3 ≤ 6) (ex7_4 : M0 7 4 = x7_4) (lx7_4 : 0 ≤ x7_4) (ux7_4 : x7_4 ≤ 127) (ex7_5 : M0 7 5 = x7_5) (lx7_5 : 0 ≤ x7_5) (ux7_5 : x7_5 ≤ 1) (ex7_6 : M0 7 6 = x7_6) (lx7_6 : 0 ≤ x7_6) (ux7_6 : x7_6 ≤ 1) (rp0 : 0 ≤ x9_1 + (-1) * x9_2) (rp1 : 0 ≤ x9_2 + (-1) * x9_3) (rp2 : 0 ≤ x9_1 + (-1) * x9_3) (xp0 : CX T x9_1 x6_3 i0 9 x9_3 (x7_2, x7_3, x7_5, x7_6, nrF (fun k => M0 8 k) x7_4 F)) (pp_TX : TXP T M0) (pp_TC : TCP T M0) : Ct B (d + 4) 162 [R 6] M0 (qI fun z M => Pw M ∧ Fr fm_n7162_6 M0 M ∧ 0 ≤ z ∧ z ≤ 1 ∧ 0 ≤ M 9 3 + (-1) * x9_3 ∧ 0 ≤ x9_1 + (-1) * (M 9 3) ∧ 0 ≤ x9_1 + (-1) * (M 9 2) ∧ 0 ≤ M 9 2 + (-1) * (M 9 3) ∧ 0 ≤ M 6 4 ∧ 0 ≤ M 6 5 + 1 ∧ (z = 1 → 0 ≤ M 6 4 + (-1) * x6_4) ∧ (z = 1 → 0 ≤ (-1) * (M 6 4) + x6_4) ∧ (z = 1 → 0 ≤ M 6 5 + (-1) * x6_5) ∧ (z = 1 → 0 ≤ (-1) * (M 6 5) + x6_5) ∧ ((z = 1 ∧ Ri T x9_1 x6_3 i0 (5, M 9 3, 0, 0, (M 7 2, M 7 3, M 7 5, M 7 6, nrF (fun k => M 8 k) (M 7 4) F))) ∨ (z = 0 ∧ Ri T x9_1 x6_3 i0 (fI (M 6 5) (M 6 4)))) ∧ (TXP T M) ∧ (TCP T M)) := by
  refine ct_of (d := d + 3) (k := 3) (L := [some (R 6), none, none, none]) rfl rfl rfl ?_
  have hF0 := Fr.rf fm_n7162_6 M0
  generalize hQ : (qI fun z M => Pw M ∧ Fr fm_n7162_6 M0 M ∧ 0 ≤ z ∧ z ≤ 1 ∧ 0 ≤ M 9 3 + (-1) * x9_3 ∧ 0 ≤ x9_1 + (-1) * (M 9 3) ∧ 0 ≤ x9_1 + (-1) * (M 9 2) ∧ 0 ≤ M 9 2 + (-1) * (M 9 3) ∧ 0 ≤ M 6 4 ∧ 0 ≤ M 6 5 + 1 ∧ (z = 1 → 0 ≤ M 6 4 + (-1) * x6_4) ∧ (z = 1 → 0 ≤ (-1) * (M 6 4) + x6_4) ∧ (z = 1 → 0 ≤ M 6 5 + (-1) * x6_5) ∧ (z = 1 → 0 ≤ (-1) * (M 6 5) + x6_5) ∧ ((z = 1 ∧ Ri T x9_1 x6_3 i0 (5, M 9 3, 0, 0, (M 7 2, M 7 3, M 7 5, M 7 6, nrF (fun k => M 8 k) (M 7 4) F))) ∨ (z = 0 ∧ Ri T x9_1 x6_3 i0 (fI (M 6 5) (M 6 4)))) ∧ (TXP T M) ∧ (TCP T M)) = Q
  refine wk_c1 r162_0 (wk_is1 r162_1 rfl (wk_c1 r162_2 (wk_is2 r162_3 rfl ?_)))
  have c4_1424 : ∀ (k1424 : Nat) (M1264 : Mm) (v1258 : Int) (v1261 : Int) (v1267 : Int) (v1271 : Int) (v1275 : Int) (v1279 : Int), (500 - v1261).toNat = k1424 → Pw M1264 → Fr fm_n7162_6 M0 M1264 → M1264 9 3 = v1267 → M1264 9 2 = v1271 → M1264 6 4 = v1275 → M1264 6 5 = v1279 → M1264 9 1 = x9_1 → M1264 6 3 = x6_3 → M1264 7 2 = x7_2 → M1264 7 3 = x7_3 → M1264 7 4 = x7_4 → M1264 7 5 = x7_5 → M1264 7 6 = x7_6 → 0 ≤ v1258 → v1258 ≤ 127 → 0 ≤ v1261 → v1261 ≤ 500 → 0 ≤ v1267 → v1267 ≤ 500 → 0 ≤ v1271 → v1271 ≤ 500 → 0 ≤ v1275 → v1275 ≤ 6 → (-1) ≤ v1279 → v1279 ≤ 500 → (TXP T M1264) → (TCP T M1264) → 0 ≤ 1 * v1267 + (-1) * x9_3 → 0 ≤ 1 * x9_1 + (-1) * v1267 → 0 ≤ 1 * x9_1 + (-1) * v1271 → 0 ≤ 1 * v1271 + (-1) * v1267 → 0 ≤ 1 * v1267 + (-1) * v1261 → 0 ≤ 1 * v1275 + (-1) * x6_4 → 0 ≤ (-1) * v1275 + 1 * x6_4 → 0 ≤ 1 * v1279 + (-1) * x6_5 → 0 ≤ (-1) * v1279 + 1 * x6_5 → (LX T x9_1 x6_3 i0 v1261 v1267 v1258 (x7_2, x7_3, x7_5, x7_6, nrF (fun k => M0 8 k) x7_4 F)) → Wp B (d + 3) 162 4 [some (R 6), some (I v1258), some (I v1261), none] [] M1264 Q := by
    refine lp_ind ?_
    intro k1424 ih1424 M1264 v1258 v1261 v1267 v1271 v1275 v1279 hk1424 hP1265 hF1266 e1270 e1274 e1278 e1282 e1283 e1284 e1285 e1286 e1287 e1288 e1289 h1259 h1260 h1262 h1263 h1268 h1269 h1272 h1273 h1276 h1277 h1280 h1281 pr1290 pr1291 h1292 h1293 h1294 h1295 h1296 h1297 h1298 h1299 h1300 ti1301
    refine wk_il2 r162_4 (wk_c3 r162_5 ?_)
    refine wk_icge r162_8 ⟨by omega, by omega⟩ (by decide) ?_ ?_
    · intro h1302
      have htt : tt T x9_1 v1267 ≠ 2 := by have q8 := pr1291; unfold TCP at q8; rw [e1283, e1270] at q8; have := tt_lt T x9_1 v1267; omega
      refine wk_al0 r162_53 (wk_getfr r162_54 fd_6_1 (br_6_1 hP1265) (wk_il1 r162_57 (wk_putfi81 r162_58 fd_7_4 (wk_nw g_7_4 rfl hP1265 hF1266 (uf_7_4 ⟨by omega, by omega⟩) ?_))))
      intro M1303 hP1304 hF1305 e1306
      refine wk_al0 r162_61 (wk_getfr r162_62 fd_6_1 (br_6_1 hP1304) (wk_c1 r162_65 (wk_putfz81 r162_66 fd_7_5 (by decide) (wk_nw g_7_5 rfl hP1304 hF1305 (uf_7_5 (by decide)) ?_))))
      intro M1307 hP1308 hF1309 e1310
      refine wk_c1 r162_69 ?_
      subst hQ; exact wk_zret r162_70 (by decide) (⟨rfl, _, rfl, hP1308, hF1309, by omega, by omega, by have := (mUp_no e1310 (mUp_no e1306 e1270 (Or.inl (by decide))) (Or.inl (by decide))); omega, by have := (mUp_no e1310 (mUp_no e1306 e1270 (Or.inl (by decide))) (Or.inl (by decide))); omega, by have := (mUp_no e1310 (mUp_no e1306 e1274 (Or.inl (by decide))) (Or.inl (by decide))); omega, by have := (mUp_no e1310 (mUp_no e1306 e1274 (Or.inl (by decide))) (Or.inl (by decide))); have := (mUp_no e1310 (mUp_no e1306 e1270 (Or.inl (by decide))) (Or.inl (by decide))); omega, by have := (mUp_no e1310 (mUp_no e1306 e1278 (Or.inl (by decide))) (Or.inl (by decide))); omega, by have := (mUp_no e1310 (mUp_no e1306 e1282 (Or.inl (by decide))) (Or.inl (by decide))); omega, by have := (mUp_no e1310 (mUp_no e1306 e1278 (Or.inl (by decide))) (Or.inl (by decide))); omega, by have := (mUp_no e1310 (mUp_no e1306 e1278 (Or.inl (by decide))) (Or.inl (by decide))); omega, by have := (mUp_no e1310 (mUp_no e1306 e1282 (Or.inl (by decide))) (Or.inl (by decide))); omega, by have := (mUp_no e1310 (mUp_no e1306 e1282 (Or.inl (by decide))) (Or.inl (by decide))); omega, Or.inl ⟨by omega, by rw [(mUp_no e1310 (mUp_no e1306 e1270 (Or.inl (by decide))) (Or.inl (by decide))), (mUp_no e1310 (mUp_no e1306 e1285 (Or.inr (by decide))) (Or.inr (by decide))), (mUp_no e1310 (mUp_no e1306 e1286 (Or.inr (by decide))) (Or.inr (by decide))), (mUp_no e1310 (mUp_at e1306) (Or.inr (by decide))), (mUp_at e1310), (mUp_no e1310 (mUp_no e1306 e1289 (Or.inr (by decide))) (Or.inr (by decide)))]; exact I_c (LX_e (li2 := 1) ti1301 (by omega) htt rfl (nr_setL _ _ _ _).symm) (by omega) rfl rfl (by omega) (by omega) (by omega) (by omega) (nr_eq (fun k _ _ => hF1309.at (ga_8 k) rfl) (by omega) rfl)⟩, (TXP_sm (Sm.up e1310 g_7_5 rfl) (TXP_sm (Sm.up e1306 g_7_4 rfl) pr1290)), (TCP_sm (Sm.up e1310 g_7_5 rfl) (TCP_sm (Sm.up e1306 g_7_4 rfl) pr1291))⟩)
    · intro h1311
      refine wk_il2 r162_11 ?_
      refine wk_ifeq r162_12 ⟨by omega, by omega⟩ ?_ ?_
      · intro h1312
        have hlx : v1261 = 0 ∨ tt T x9_1 v1267 = 2 := by have q8 := pr1291; unfold TCP at q8; rw [e1283, e1270] at q8; omega
        refine wk_al0 r162_26 (wk_c1 r162_27 (wk_c2 r162_28 (wk_cv3 r162_30 kc_6_167 rfl (n7167_6 _ M1264 0 6 x9_1 v1267 v1271 v1275 v1279 T hP1265 (by decide) (by decide) (by decide) (by decide) e1283 (by first | with_reducible assumption | omega) (by first | with_reducible assumption | omega) e1270 (by first | with_reducible assumption | omega) (by first | with_reducible assumption | omega) e1274 (by first | with_reducible assumption | omega) (by first | with_reducible assumption | omega) e1278 (by first | with_reducible assumption | omega) (by first | with_reducible assumption | omega) e1282 (by first | with_reducible assumption | omega) (by first | with_reducible assumption | omega) (by omega) (by omega) (by omega) pr1290 pr1291) (cqI ?_))))
        rintro v1327 M1313 ⟨hP1314, hQ1315, h1328, h1329, h1317, h1318, h1319, h1320, h1321, h1322, h1323, xh1324, pr1325, pr1326⟩
        have hF1316 : Fr fm_n7162_6 M0 M1313 := hF1266.tr hQ1315 rfl
        obtain ⟨v1330, e1331⟩ : ∃ v, M1313 9 3 = v := ⟨_, rfl⟩
        have h1332 := (bf_9_3 hP1314).1; rw [e1331] at h1332
        have h1333 := (bf_9_3 hP1314).2; rw [e1331] at h1333
        obtain ⟨v1334, e1335⟩ : ∃ v, M1313 9 2 = v := ⟨_, rfl⟩
        have h1336 := (bf_9_2 hP1314).1; rw [e1335] at h1336
        have h1337 := (bf_9_2 hP1314).2; rw [e1335] at h1337
        obtain ⟨v1338, e1339⟩ : ∃ v, M1313 6 4 = v := ⟨_, rfl⟩
        have h1340 := (bf_6_4 hP1314).1; rw [e1339] at h1340
        have h1341 := (bf_6_4 hP1314).2; rw [e1339] at h1341
        obtain ⟨v1342, e1343⟩ : ∃ v, M1313 6 5 = v := ⟨_, rfl⟩
        have h1344 := (bf_6_5 hP1314).1; rw [e1343] at h1344
        have h1345 := (bf_6_5 hP1314).2; rw [e1343] at h1345
        refine wk_is3 r162_33 rfl (wk_il3 r162_34 (wk_c1 r162_35 ?_))
        refine wk_icne r162_36 ⟨by omega, by omega⟩ (by decide) ?_ ?_
        · intro h1346
          have h1347 : v1267 + 1 ≤ v1330 := by omega
          have h1348 : v1338 = v1275 := by omega
          have h1349 : v1342 = v1279 := by omega
          refine wk_il1 r162_41 (wk_c1 r162_42 (wk_il3 r162_43 (wk_shl1 6 64 r162_44 ⟨by omega, by omega⟩ ⟨pwl_6, by decide⟩ ?_)))
          intro v1350 h1351 h1352 h1353
          refine wk_ior 7 128 r162_45 (by decide) ⟨by omega, by omega⟩ ⟨by omega, by omega⟩ ?_
          intro v1354 h1355 h1356 h1357 h1358 h1359
          refine wk_is1 r162_46 rfl (wk_inc2 r162_47 rfl (wk_goto r162_50 ?_))
          exact wp_fg (le_s (le_s (le_s (le_n le_0)))) (ih1424 (500 - (v1261 + 1)).toNat (by omega) M1313 v1354 (v1261 + 1) v1330 v1334 v1338 v1342 rfl hP1314 hF1316 e1331 e1335 e1339 e1343 ((hQ1315.at g_9_1 rfl).trans e1283) ((hQ1315.at g_6_3 rfl).trans e1284) ((hQ1315.at g_7_2 rfl).trans e1285) ((hQ1315.at g_7_3 rfl).trans e1286) ((hQ1315.at g_7_4 rfl).trans e1287) ((hQ1315.at g_7_5 rfl).trans e1288) ((hQ1315.at g_7_6 rfl).trans e1289) (by first | with_reducible assumption | omega) (by first | with_reducible assumption | omega) (by first | with_reducible assumption | omega) (by first | with_reducible assumption | omega) (by first | with_reducible assumption | omega) (by first | with_reducible assumption | omega) (by first | with_reducible assumption | omega) (by first | with_reducible assumption | omega) (by first | with_reducible assumption | omega) (by first | with_reducible assumption | omega) (by first | with_reducible assumption | omega) (by first | with_reducible assumption | omega) pr1325 pr1326 (by first | with_reducible assumption | omega) (by first | with_reducible assumption | omega) (by first | with_reducible assumption | omega) (by first | with_reducible assumption | omega) (by first | with_reducible assumption | omega) (by first | with_reducible assumption | omega) (by first | with_reducible assumption | omega) (by first | with_reducible assumption | omega) (by first | with_reducible assumption | omega) (LX_n ti1301 hlx (by omega) (by omega) (by omega) (by have q8 := bor_or (t := v1258) (k := v1327) ⟨by omega, by omega⟩ (by omega) (by omega) h1353 h1359; rw [show vlI T x9_1 v1267 = v1327 by omega]; exact q8.1)))
        · intro h1360
          refine wk_c1 r162_39 ?_
          subst hQ; exact wk_zret r162_40 (by decide) (⟨rfl, _, rfl, hP1314, hF1316, by omega, by omega, by have := e1331; omega, by have := e1331; omega, by have := e1335; omega, by have := e1335; have := e1331; omega, by have := e1339; omega, by have := e1343; omega, by omega, by omega, by omega, by omega, Or.inr ⟨by omega, by rw [e1343, e1339]; exact l_n (LX_r ti1301 hlx) (by omega) (by omega) (by omega)⟩, pr1325, pr1326⟩)
      · intro h1361
        refine wk_al0 r162_15 (wk_getfr r162_16 fd_6_0 (br_6_0 hP1265) (wk_getfb r162_19 fd_9_4 (bf_9_4 hP1265) ?_))
        intro v1362 h1364 h1365 e1363
        refine wk_c1 r162_22 ?_
        refine wk_icne r162_23 ⟨by omega, by omega⟩ (by decide) ?_ ?_
        · intro h1366
          have htt : tt T x9_1 v1267 ≠ 2 := by have q8 := pr1291; unfold TCP at q8; rw [e1283, e1270] at q8; have := tt_lt T x9_1 v1267; omega
          refine wk_al0 r162_53 (wk_getfr r162_54 fd_6_1 (br_6_1 hP1265) (wk_il1 r162_57 (wk_putfi81 r162_58 fd_7_4 (wk_nw g_7_4 rfl hP1265 hF1266 (uf_7_4 ⟨by omega, by omega⟩) ?_))))
          intro M1367 hP1368 hF1369 e1370
          refine wk_al0 r162_61 (wk_getfr r162_62 fd_6_1 (br_6_1 hP1368) (wk_c1 r162_65 (wk_putfz81 r162_66 fd_7_5 (by decide) (wk_nw g_7_5 rfl hP1368 hF1369 (uf_7_5 (by decide)) ?_))))
          intro M1371 hP1372 hF1373 e1374
          refine wk_c1 r162_69 ?_
          subst hQ; exact wk_zret r162_70 (by decide) (⟨rfl, _, rfl, hP1372, hF1373, by omega, by omega, by have := (mUp_no e1374 (mUp_no e1370 e1270 (Or.inl (by decide))) (Or.inl (by decide))); omega, by have := (mUp_no e1374 (mUp_no e1370 e1270 (Or.inl (by decide))) (Or.inl (by decide))); omega, by have := (mUp_no e1374 (mUp_no e1370 e1274 (Or.inl (by decide))) (Or.inl (by decide))); omega, by have := (mUp_no e1374 (mUp_no e1370 e1274 (Or.inl (by decide))) (Or.inl (by decide))); have := (mUp_no e1374 (mUp_no e1370 e1270 (Or.inl (by decide))) (Or.inl (by decide))); omega, by have := (mUp_no e1374 (mUp_no e1370 e1278 (Or.inl (by decide))) (Or.inl (by decide))); omega, by have := (mUp_no e1374 (mUp_no e1370 e1282 (Or.inl (by decide))) (Or.inl (by decide))); omega, by have := (mUp_no e1374 (mUp_no e1370 e1278 (Or.inl (by decide))) (Or.inl (by decide))); omega, by have := (mUp_no e1374 (mUp_no e1370 e1278 (Or.inl (by decide))) (Or.inl (by decide))); omega, by have := (mUp_no e1374 (mUp_no e1370 e1282 (Or.inl (by decide))) (Or.inl (by decide))); omega, by have := (mUp_no e1374 (mUp_no e1370 e1282 (Or.inl (by decide))) (Or.inl (by decide))); omega, Or.inl ⟨by omega, by rw [(mUp_no e1374 (mUp_no e1370 e1270 (Or.inl (by decide))) (Or.inl (by decide))), (mUp_no e1374 (mUp_no e1370 e1285 (Or.inr (by decide))) (Or.inr (by decide))), (mUp_no e1374 (mUp_no e1370 e1286 (Or.inr (by decide))) (Or.inr (by decide))), (mUp_no e1374 (mUp_at e1370) (Or.inr (by decide))), (mUp_at e1374), (mUp_no e1374 (mUp_no e1370 e1289 (Or.inr (by decide))) (Or.inr (by decide)))]; exact I_c (LX_e (li2 := 1) ti1301 (by omega) htt rfl (nr_setL _ _ _ _).symm) (by omega) rfl rfl (by omega) (by omega) (by omega) (by omega) (nr_eq (fun k _ _ => hF1373.at (ga_8 k) rfl) (by omega) rfl)⟩, (TXP_sm (Sm.up e1374 g_7_5 rfl) (TXP_sm (Sm.up e1370 g_7_4 rfl) pr1290)), (TCP_sm (Sm.up e1374 g_7_5 rfl) (TCP_sm (Sm.up e1370 g_7_4 rfl) pr1291))⟩)
        · intro h1375
          have hlx : v1261 = 0 ∨ tt T x9_1 v1267 = 2 := by have q8 := pr1291; unfold TCP at q8; rw [e1283, e1270] at q8; omega
          refine wk_al0 r162_26 (wk_c1 r162_27 (wk_c2 r162_28 (wk_cv3 r162_30 kc_6_167 rfl (n7167_6 _ M1264 0 6 x9_1 v1267 v1271 v1275 v1279 T hP1265 (by decide) (by decide) (by decide) (by decide) e1283 (by first | with_reducible assumption | omega) (by first | with_reducible assumption | omega) e1270 (by first | with_reducible assumption | omega) (by first | with_reducible assumption | omega) e1274 (by first | with_reducible assumption | omega) (by first | with_reducible assumption | omega) e1278 (by first | with_reducible assumption | omega) (by first | with_reducible assumption | omega) e1282 (by first | with_reducible assumption | omega) (by first | with_reducible assumption | omega) (by omega) (by omega) (by omega) pr1290 pr1291) (cqI ?_))))
          rintro v1390 M1376 ⟨hP1377, hQ1378, h1391, h1392, h1380, h1381, h1382, h1383, h1384, h1385, h1386, xh1387, pr1388, pr1389⟩
          have hF1379 : Fr fm_n7162_6 M0 M1376 := hF1266.tr hQ1378 rfl
          obtain ⟨v1393, e1394⟩ : ∃ v, M1376 9 3 = v := ⟨_, rfl⟩
          have h1395 := (bf_9_3 hP1377).1; rw [e1394] at h1395
          have h1396 := (bf_9_3 hP1377).2; rw [e1394] at h1396
          obtain ⟨v1397, e1398⟩ : ∃ v, M1376 9 2 = v := ⟨_, rfl⟩
          have h1399 := (bf_9_2 hP1377).1; rw [e1398] at h1399
          have h1400 := (bf_9_2 hP1377).2; rw [e1398] at h1400
          obtain ⟨v1401, e1402⟩ : ∃ v, M1376 6 4 = v := ⟨_, rfl⟩
          have h1403 := (bf_6_4 hP1377).1; rw [e1402] at h1403
          have h1404 := (bf_6_4 hP1377).2; rw [e1402] at h1404
          obtain ⟨v1405, e1406⟩ : ∃ v, M1376 6 5 = v := ⟨_, rfl⟩
          have h1407 := (bf_6_5 hP1377).1; rw [e1406] at h1407
          have h1408 := (bf_6_5 hP1377).2; rw [e1406] at h1408
          refine wk_is3 r162_33 rfl (wk_il3 r162_34 (wk_c1 r162_35 ?_))
          refine wk_icne r162_36 ⟨by omega, by omega⟩ (by decide) ?_ ?_
          · intro h1409
            have h1410 : v1267 + 1 ≤ v1393 := by omega
            have h1411 : v1401 = v1275 := by omega
            have h1412 : v1405 = v1279 := by omega
            refine wk_il1 r162_41 (wk_c1 r162_42 (wk_il3 r162_43 (wk_shl1 6 64 r162_44 ⟨by omega, by omega⟩ ⟨pwl_6, by decide⟩ ?_)))
            intro v1413 h1414 h1415 h1416
            refine wk_ior 7 128 r162_45 (by decide) ⟨by omega, by omega⟩ ⟨by omega, by omega⟩ ?_
            intro v1417 h1418 h1419 h1420 h1421 h1422
            refine wk_is1 r162_46 rfl (wk_inc2 r162_47 rfl (wk_goto r162_50 ?_))
            exact wp_fg (le_s (le_s (le_s (le_n le_0)))) (ih1424 (500 - (v1261 + 1)).toNat (by omega) M1376 v1417 (v1261 + 1) v1393 v1397 v1401 v1405 rfl hP1377 hF1379 e1394 e1398 e1402 e1406 ((hQ1378.at g_9_1 rfl).trans e1283) ((hQ1378.at g_6_3 rfl).trans e1284) ((hQ1378.at g_7_2 rfl).trans e1285) ((hQ1378.at g_7_3 rfl).trans e1286) ((hQ1378.at g_7_4 rfl).trans e1287) ((hQ1378.at g_7_5 rfl).trans e1288) ((hQ1378.at g_7_6 rfl).trans e1289) (by first | with_reducible assumption | omega) (by first | with_reducible assumption | omega) (by first | with_reducible assumption | omega) (by first | with_reducible assumption | omega) (by first | with_reducible assumption | omega) (by first | with_reducible assumption | omega) (by first | with_reducible assumption | omega) (by first | with_reducible assumption | omega) (by first | with_reducible assumption | omega) (by first | with_reducible assumption | omega) (by first | with_reducible assumption | omega) (by first | with_reducible assumption | omega) pr1388 pr1389 (by first | with_reducible assumption | omega) (by first | with_reducible assumption | omega) (by first | with_reducible assumption | omega) (by first | with_reducible assumption | omega) (by first | with_reducible assumption | omega) (by first | with_reducible assumption | omega) (by first | with_reducible assumption | omega) (by first | with_reducible assumption | omega) (by first | with_reducible assumption | omega) (LX_n ti1301 hlx (by omega) (by omega) (by omega) (by have q8 := bor_or (t := v1258) (k := v1390) ⟨by omega, by omega⟩ (by omega) (by omega) h1416 h1422; rw [show vlI T x9_1 v1267 = v1390 by omega]; exact q8.1)))
          · intro h1423
            refine wk_c1 r162_39 ?_
            subst hQ; exact wk_zret r162_40 (by decide) (⟨rfl, _, rfl, hP1377, hF1379, by omega, by omega, by have := e1394; omega, by have := e1394; omega, by have := e1398; omega, by have := e1398; have := e1394; omega, by have := e1402; omega, by have := e1406; omega, by omega, by omega, by omega, by omega, Or.inr ⟨by omega, by rw [e1406, e1402]; exact l_n (LX_r ti1301 hlx) (by omega) (by omega) (by omega)⟩, pr1388, pr1389⟩)
  exact wp_fg (le_s (le_s (le_s (le_s le_0)))) (c4_1424 _ M0 0 0 x9_3 x9_2 x6_4 x6_5 rfl hP0 hF0 ex9_3 ex9_2 ex6_4 ex6_5 ex9_1 ex6_3 ex7_2 ex7_3 ex7_4 ex7_5 ex7_6 (by first | with_reducible assumption | omega) (by first | with_reducible assumption | omega) (by first | with_reducible assumption | omega) (by first | with_reducible assumption | omega) (by first | with_reducible assumption | omega) (by first | with_reducible assumption | omega) (by first | with_reducible assumption | omega) (by first | with_reducible assumption | omega) (by first | with_reducible assumption | omega) (by first | with_reducible assumption | omega) (by first | with_reducible assumption | omega) (by first | with_reducible assumption | omega) pp_TX pp_TC (by first | with_reducible assumption | omega) (by first | with_reducible assumption | omega) (by first | with_reducible assumption | omega) (by first | with_reducible assumption | omega) (by first | with_reducible assumption | omega) (by first | with_reducible assumption | omega) (by first | with_reducible assumption | omega) (by first | with_reducible assumption | omega) (by first | with_reducible assumption | omega) (LX_0 (CX_lies xp0) (by omega) (by omega)))
def fm_n7164_6 : Nat := 4011430734987264
set_option maxHeartbeats 20000000 in
/-- IslandHall$Parser.mayClause -/
theorem n7164_6 {B : eB} (d : Nat) (M0 : Mm) (x9_1 : Int) (x9_3 : Int) (x9_2 : Int) (x6_4 : Int) (x6_5 : Int) (x6_3 : Int) (x7_2 : Int) (x7_3 : Int) (x7_4 : Int) (x7_5 : Int) (x7_6 : Int) (T : Int → Int) (i0 : Ig) (F : List Int) (hP0 : Pw M0) (ex9_1 : M0 9 1 = x9_1) (lx9_1 : 0 ≤ x9_1) (ux9_1 : x9_1 ≤ 500) (ex9_3 : M0 9 3 = x9_3) (lx9_3 : 0 ≤ x9_3) (ux9_3 : x9_3 ≤ 500) (ex9_2 : M0 9 2 = x9_2) (lx9_2 : 0 ≤ x9_2) (ux9_2 : x9_2 ≤ 500) (ex6_4 : M0 6 4 = x6_4) (lx6_4 : 0 ≤ x6_4) (ux6_4 : x6_4 ≤ 6) (ex6_5 : M0 6 5 = x6_5) (lx6_5 : (-1) ≤ x6_5) (ux6_5 : x6_5 ≤ 500) (ex6_3 : M0 6 3 = x6_3) (lx6_3 : (-1) ≤ x6_3) (ux6_3 : x6_3 ≤ 7) (ex7_2 : M0 7 2 = x7_2) (lx7_2 : (-1) ≤ x7_2) (ux7_2 : x7_2 ≤ 4) (ex7_3 : M0 7 3 = x7_3) (lx7_3 : (-1) ≤ x7_3) (ux7_3 : x7_3 ≤ 6) (ex7_4 : M0 7 4 = x7_4) (lx7_4 : 0 ≤ x7_4) (ux7_4 : x7_4 ≤ 127) (ex7_5 : M0 7 5 = x7_5) (lx7_5 : 0 ≤ x7_5) (ux7_5 : x7_5 ≤ 1) (ex7_6 : M0 7 6 = x7_6) (lx7_6 : 0 ≤ x7_6) (ux7_6 : x7_6 ≤ 1) (rp0 : 0 ≤ x9_1 + (-1) * x9_2) (rp1 : 0 ≤ x9_2 + (-1) * x9_3) (rp2 : 0 ≤ x9_1 + (-1) * x9_3) (xp0 : CX T x9_1 x6_3 i0 6 x9_3 (x7_2, x7_3, x7_5, x7_6, nrF (fun k => M0 8 k) x7_4 F)) (xp1 : ∀ k : Int, 0 ≤ k → k < 7 → 1 ≤ M0 8 k) (pp_TX : TXP T M0) (pp_TC : TCP T M0) : Ct B (d + 5) 164 [R 6] M0 (qI fun z M => Pw M ∧ Fr fm_n7164_6 M0 M ∧ 0 ≤ z ∧ z ≤ 1 ∧ 0 ≤ M 9 3 + (-1) * x9_3 ∧ 0 ≤ x9_1 + (-1) * (M 9 3) ∧ 0 ≤ x9_1 + (-1) * (M 9 2) ∧ 0 ≤ M 9 2 + (-1) * (M 9 3) ∧ 0 ≤ M 6 4 ∧ 0 ≤ M 6 5 + 1 ∧ (z = 1 → 0 ≤ M 6 4 + (-1) * x6_4) ∧ (z = 1 → 0 ≤ (-1) * (M 6 4) + x6_4) ∧ (z = 1 → 0 ≤ M 6 5 + (-1) * x6_5) ∧ (z = 1 → 0 ≤ (-1) * (M 6 5) + x6_5) ∧ (∀ k : Int, 0 ≤ k → k < 7 → 1 ≤ M 8 k) ∧ ((z = 1 ∧ Ri T x9_1 x6_3 i0 (5, M 9 3, 0, 0, (M 7 2, M 7 3, M 7 5, M 7 6, nrF (fun k => M 8 k) (M 7 4) F))) ∨ (z = 0 ∧ Ri T x9_1 x6_3 i0 (fI (M 6 5) (M 6 4)))) ∧ (TXP T M) ∧ (TCP T M)) := by
  refine ct_of (d := d + 4) (k := 5) (L := [some (R 6), none, none, none, none, none]) rfl rfl rfl ?_
  have hF0 := Fr.rf fm_n7164_6 M0
  generalize hQ : (qI fun z M => Pw M ∧ Fr fm_n7164_6 M0 M ∧ 0 ≤ z ∧ z ≤ 1 ∧ 0 ≤ M 9 3 + (-1) * x9_3 ∧ 0 ≤ x9_1 + (-1) * (M 9 3) ∧ 0 ≤ x9_1 + (-1) * (M 9 2) ∧ 0 ≤ M 9 2 + (-1) * (M 9 3) ∧ 0 ≤ M 6 4 ∧ 0 ≤ M 6 5 + 1 ∧ (z = 1 → 0 ≤ M 6 4 + (-1) * x6_4) ∧ (z = 1 → 0 ≤ (-1) * (M 6 4) + x6_4) ∧ (z = 1 → 0 ≤ M 6 5 + (-1) * x6_5) ∧ (z = 1 → 0 ≤ (-1) * (M 6 5) + x6_5) ∧ (∀ k : Int, 0 ≤ k → k < 7 → 1 ≤ M 8 k) ∧ ((z = 1 ∧ Ri T x9_1 x6_3 i0 (5, M 9 3, 0, 0, (M 7 2, M 7 3, M 7 5, M 7 6, nrF (fun k => M 8 k) (M 7 4) F))) ∨ (z = 0 ∧ Ri T x9_1 x6_3 i0 (fI (M 6 5) (M 6 4)))) ∧ (TXP T M) ∧ (TCP T M)) = Q
  obtain ⟨u1, hu2⟩ : ∃ u : Int → Int, ∀ k, M0 8 k = u k := ⟨fun k => M0 8 k, fun k => rfl⟩
  have e8 : ∀ (lv : Int) (F : List Int), nrF (fun k => M0 8 k) lv F = nrF u1 lv F := fun lv F => nr_eq (fun k _ _ => hu2 k) rfl rfl
  rw [e8] at xp0
  have dm0 : ∀ k : Int, 0 ≤ k → k < 7 → 1 ≤ u1 k := fun k a b => by rw [← hu2 k]; exact xp1 k a b
  refine wk_al0 r164_0 (wk_cv1 r164_1 kc_6_165 rfl (n7165_6 _ M0 x9_1 x9_3 x9_2 x6_4 x6_5 x6_3 T hP0 ex9_1 (by first | with_reducible assumption | omega) (by first | with_reducible assumption | omega) ex9_3 (by first | with_reducible assumption | omega) (by first | with_reducible assumption | omega) ex9_2 (by first | with_reducible assumption | omega) (by first | with_reducible assumption | omega) ex6_4 (by first | with_reducible assumption | omega) (by first | with_reducible assumption | omega) ex6_5 (by first | with_reducible assumption | omega) (by first | with_reducible assumption | omega) ex6_3 (by first | with_reducible assumption | omega) (by first | with_reducible assumption | omega) (by omega) (by omega) (by omega) pp_TX pp_TC) (cqI ?_))
  rintro v16 M3 ⟨hP4, hQ5, h17, h18, h7, h8, h9, h10, h11, h12, xh13, pr14, pr15⟩
  have hF6 : Fr fm_n7164_6 M0 M3 := hF0.tr hQ5 rfl
  obtain ⟨v19, e20⟩ : ∃ v, M3 9 3 = v := ⟨_, rfl⟩
  have h21 := (bf_9_3 hP4).1; rw [e20] at h21
  have h22 := (bf_9_3 hP4).2; rw [e20] at h22
  obtain ⟨v23, e24⟩ : ∃ v, M3 9 2 = v := ⟨_, rfl⟩
  have h25 := (bf_9_2 hP4).1; rw [e24] at h25
  have h26 := (bf_9_2 hP4).2; rw [e24] at h26
  obtain ⟨v27, e28⟩ : ∃ v, M3 6 4 = v := ⟨_, rfl⟩
  have h29 := (bf_6_4 hP4).1; rw [e28] at h29
  have h30 := (bf_6_4 hP4).2; rw [e28] at h30
  obtain ⟨v31, e32⟩ : ∃ v, M3 6 5 = v := ⟨_, rfl⟩
  have h33 := (bf_6_5 hP4).1; rw [e32] at h33
  have h34 := (bf_6_5 hP4).2; rw [e32] at h34
  refine wk_is1 r164_4 rfl (wk_il1 r164_5 (wk_c1 r164_6 ?_))
  refine wk_icne r164_7 ⟨by omega, by omega⟩ (by decide) ?_ ?_
  · intro h35
    have r1 : Ri T x9_1 x6_3 i0 (1, v19, 0, v16, (x7_2, x7_3, x7_5, x7_6, nrF u1 x7_4 F)) := CX_may xp0 (by omega) (by omega) (by omega)
    refine wk_al0 r164_14 (wk_cv1 r164_15 kc_6_173 rfl (n7173_6 _ M3 x9_1 v19 v23 v27 v31 T hP4 ((hQ5.at g_9_1 rfl).trans ex9_1) (by first | with_reducible assumption | omega) (by first | with_reducible assumption | omega) e20 (by first | with_reducible assumption | omega) (by first | with_reducible assumption | omega) e24 (by first | with_reducible assumption | omega) (by first | with_reducible assumption | omega) e28 (by first | with_reducible assumption | omega) (by first | with_reducible assumption | omega) e32 (by first | with_reducible assumption | omega) (by first | with_reducible assumption | omega) (by omega) (by omega) (by omega) pr14 pr15) (cqI ?_))
    rintro v49 M36 ⟨hP37, hQ38, h50, h51, h40, h41, h42, h43, h44, h45, xh46, pr47, pr48⟩
    have hF39 : Fr fm_n7164_6 M0 M36 := hF6.tr hQ38 rfl
    obtain ⟨v52, e53⟩ : ∃ v, M36 9 3 = v := ⟨_, rfl⟩
    have h54 := (bf_9_3 hP37).1; rw [e53] at h54
    have h55 := (bf_9_3 hP37).2; rw [e53] at h55
    obtain ⟨v56, e57⟩ : ∃ v, M36 9 2 = v := ⟨_, rfl⟩
    have h58 := (bf_9_2 hP37).1; rw [e57] at h58
    have h59 := (bf_9_2 hP37).2; rw [e57] at h59
    obtain ⟨v60, e61⟩ : ∃ v, M36 6 4 = v := ⟨_, rfl⟩
    have h62 := (bf_6_4 hP37).1; rw [e61] at h62
    have h63 := (bf_6_4 hP37).2; rw [e61] at h63
    obtain ⟨v64, e65⟩ : ∃ v, M36 6 5 = v := ⟨_, rfl⟩
    have h66 := (bf_6_5 hP37).1; rw [e65] at h66
    have h67 := (bf_6_5 hP37).2; rw [e65] at h67
    refine wk_is2 r164_18 rfl (wk_il2 r164_19 (wk_c1 r164_20 ?_))
    refine wk_icne r164_21 ⟨by omega, by omega⟩ (by decide) ?_ ?_
    · intro h68
      refine wk_c1 r164_26 (wk_il2 r164_27 (wk_shl1 4 16 r164_28 ⟨by omega, by omega⟩ ⟨pwl_4, by decide⟩ ?_))
      intro v69 h70 h71 h72
      refine wk_is3 r164_29 rfl (wk_c1 r164_30 (wk_is4 r164_31 rfl ?_))
      have c33_900 : ∀ (k900 : Nat) (M780 : Mm) (v774 : Int) (v777 : Int) (v783 : Int) (v787 : Int), (5 - v777).toNat = k900 → Pw M780 → Fr fm_n7164_6 M0 M780 → M780 9 3 = v783 → M780 9 2 = v787 → M780 9 1 = x9_1 → M780 6 3 = x6_3 → M780 7 2 = x7_2 → M780 7 3 = x7_3 → M780 7 4 = x7_4 → M780 7 5 = x7_5 → M780 7 6 = x7_6 → M780 6 4 = v60 → M780 6 5 = v64 → 1 ≤ v774 → v774 ≤ 31 → 0 ≤ v777 → v777 ≤ 5 → 0 ≤ v783 → v783 ≤ 500 → 0 ≤ v787 → v787 ≤ 500 → (∀ k, M780 8 k = u1 k) → (TXP T M780) → (TCP T M780) → 0 ≤ 1 * v783 + (-1) * x9_3 → 0 ≤ 1 * x9_1 + (-1) * v783 → 0 ≤ 1 * x9_1 + (-1) * v787 → 0 ≤ 1 * v787 + (-1) * v783 → 0 ≤ (-1) * v774 + 31 → 0 ≤ (-1) * v783 + v774 + 499 → 0 ≤ (-1) * v783 + v777 + 500 → 0 ≤ (-1) * v783 + v787 + 0 → 0 ≤ (-1) * v787 + v774 + 499 → 0 ≤ (-1) * v787 + v777 + 500 → 0 ≤ (-1) * v787 + v783 + 500 → (MP T x9_1 x6_3 i0 v783 v774 v16 (x7_2, x7_3, x7_5, x7_6, nrF u1 x7_4 F) ∧ bT v774 = v777 + 1) → Wp B (d + 4) 164 33 [some (R 6), some (I v16), none, some (I v774), some (I v777), none] [] M780 Q := by
        refine lp_ind ?_
        intro k900 ih900 M780 v774 v777 v783 v787 hk900 hP781 hF782 e786 e790 e792 e793 e794 e795 e796 e797 e798 e799 e800 h775 h776 h778 h779 h784 h785 h788 h789 hu791 pr801 pr802 h803 h804 h805 h806 h807 h808 h809 h810 h811 h812 h813 ti814
        refine wk_il4 r164_33 (wk_c1 r164_35 ?_)
        refine wk_icge r164_36 ⟨by omega, by omega⟩ (by decide) ?_ ?_
        · intro h815
          refine wk_al0 r164_92 (wk_getfr r164_93 fd_6_1 (br_6_1 hP781) (wk_getfr r164_96 fd_7_0 (br_7_0 hP781) (wk_il1 r164_99 (wk_il3 r164_100 ?_))))
          have dm1 : ∀ k : Int, 0 ≤ k → k < 7 → 1 ≤ M780 8 k := fun k a b => by rw [hu791 k]; exact dm0 k a b
          refine wk_iast r164_101 ar_8 ⟨by omega, by omega⟩ (wk_nw (ga_8 _) rfl hP781 hF782 (ua_8 ⟨by omega, by omega⟩) ?_)
          intro M816 hP817 hF818 e819
          refine wk_c1 r164_102 ?_
          subst hQ; exact wk_zret r164_103 (by decide) (⟨rfl, _, rfl, hP817, hF818, by omega, by omega, by have := (mUp_no e819 e786 (Or.inl (by decide))); omega, by have := (mUp_no e819 e786 (Or.inl (by decide))); omega, by have := (mUp_no e819 e790 (Or.inl (by decide))); omega, by have := (mUp_no e819 e790 (Or.inl (by decide))); have := (mUp_no e819 e786 (Or.inl (by decide))); omega, by have := (mUp_no e819 e799 (Or.inl (by decide))); omega, by have := (mUp_no e819 e800 (Or.inl (by decide))); omega, by have := (mUp_no e819 e799 (Or.inl (by decide))); omega, by have := (mUp_no e819 e799 (Or.inl (by decide))); omega, by have := (mUp_no e819 e800 (Or.inl (by decide))); omega, by have := (mUp_no e819 e800 (Or.inl (by decide))); omega, fun k a b => dm_up e819 dm1 (by omega) k a b, Or.inl ⟨by omega, by rw [(mUp_no e819 e786 (Or.inl (by decide))), (mUp_no e819 e794 (Or.inl (by decide))), (mUp_no e819 e795 (Or.inl (by decide))), (mUp_no e819 e796 (Or.inl (by decide))), (mUp_no e819 e797 (Or.inl (by decide))), (mUp_no e819 e798 (Or.inl (by decide)))]; exact may_end (ti814).1 (by have := kdI_c T x9_1 v783; have := bT_5 v774; have := (ti814).2; omega) ((nr_eq (fun k _ _ => hu791 k) (by omega) rfl)) e819 (by omega) (by omega)⟩, (TXP_sm (Sm.up e819 (ga_8 _) rfl) pr801), (TCP_sm (Sm.up e819 (ga_8 _) rfl) pr802)⟩)
        · intro h820
          refine wk_al0 r164_39 (wk_getfr r164_40 fd_6_0 (br_6_0 hP781) (wk_cv1 r164_43 kc_9_240 rfl (n7240_9 _ M780 x9_1 v783 T hP781 e792 (by first | with_reducible assumption | omega) (by first | with_reducible assumption | omega) e786 (by first | with_reducible assumption | omega) (by first | with_reducible assumption | omega) pr801 pr802) (cqI ?_)))
          rintro v826 M821 ⟨hP822, hQ823, h827, h828, xh825⟩
          obtain rfl := Fr.same hQ823
          refine wk_c1 r164_46 ?_
          refine wk_iceq r164_47 ⟨by omega, by omega⟩ (by decide) ?_ ?_
          · intro h829
            refine wk_al0 r164_92 (wk_getfr r164_93 fd_6_1 (br_6_1 hP781) (wk_getfr r164_96 fd_7_0 (br_7_0 hP781) (wk_il1 r164_99 (wk_il3 r164_100 ?_))))
            have dm1 : ∀ k : Int, 0 ≤ k → k < 7 → 1 ≤ M780 8 k := fun k a b => by rw [hu791 k]; exact dm0 k a b
            refine wk_iast r164_101 ar_8 ⟨by omega, by omega⟩ (wk_nw (ga_8 _) rfl hP781 hF782 (ua_8 ⟨by omega, by omega⟩) ?_)
            intro M830 hP831 hF832 e833
            refine wk_c1 r164_102 ?_
            subst hQ; exact wk_zret r164_103 (by decide) (⟨rfl, _, rfl, hP831, hF832, by omega, by omega, by have := (mUp_no e833 e786 (Or.inl (by decide))); omega, by have := (mUp_no e833 e786 (Or.inl (by decide))); omega, by have := (mUp_no e833 e790 (Or.inl (by decide))); omega, by have := (mUp_no e833 e790 (Or.inl (by decide))); have := (mUp_no e833 e786 (Or.inl (by decide))); omega, by have := (mUp_no e833 e799 (Or.inl (by decide))); omega, by have := (mUp_no e833 e800 (Or.inl (by decide))); omega, by have := (mUp_no e833 e799 (Or.inl (by decide))); omega, by have := (mUp_no e833 e799 (Or.inl (by decide))); omega, by have := (mUp_no e833 e800 (Or.inl (by decide))); omega, by have := (mUp_no e833 e800 (Or.inl (by decide))); omega, fun k a b => dm_up e833 dm1 (by omega) k a b, Or.inl ⟨by omega, by rw [(mUp_no e833 e786 (Or.inl (by decide))), (mUp_no e833 e794 (Or.inl (by decide))), (mUp_no e833 e795 (Or.inl (by decide))), (mUp_no e833 e796 (Or.inl (by decide))), (mUp_no e833 e797 (Or.inl (by decide))), (mUp_no e833 e798 (Or.inl (by decide)))]; exact may_end (ti814).1 (by have := kdI_c T x9_1 v783; have := bT_5 v774; have := (ti814).2; omega) ((nr_eq (fun k _ _ => hu791 k) (by omega) rfl)) e833 (by omega) (by omega)⟩, (TXP_sm (Sm.up e833 (ga_8 _) rfl) pr801), (TCP_sm (Sm.up e833 (ga_8 _) rfl) pr802)⟩)
          · intro h834
            refine wk_c1 r164_50 (wk_al0 r164_51 (wk_getfr r164_52 fd_6_0 (br_6_0 hP781) (wk_cv1 r164_55 kc_9_240 rfl (n7240_9 _ M780 x9_1 v783 T hP781 e792 (by first | with_reducible assumption | omega) (by first | with_reducible assumption | omega) e786 (by first | with_reducible assumption | omega) (by first | with_reducible assumption | omega) pr801 pr802) (cqI ?_))))
            rintro v840 M835 ⟨hP836, hQ837, h841, h842, xh839⟩
            obtain rfl := Fr.same hQ837
            have h843 : 0 ≤ v840 := by omega
            refine wk_shl1 4 16 r164_58 ⟨by omega, by omega⟩ ⟨pwl_4, by decide⟩ ?_
            intro v844 h845 h846 h847
            refine wk_is5 r164_59 rfl ?_
            have hkc9 := kdI_c T x9_1 v783
            refine wk_il3 r164_61 (wk_il5 r164_62 (wk_iand r164_64 ⟨by omega, by omega⟩ ⟨by omega, by omega⟩ ?_))
            intro v848 h849 h850 h851 h852
            have hand9 := bit_and (t := v774) (k := v840) (b := v844) ⟨by omega, by omega⟩ (by omega) (by omega) h847 h852
            refine wk_ifeq r164_65 ⟨by omega, by omega⟩ ?_ ?_
            · intro h853
              refine wk_il3 r164_74 (wk_il5 r164_75 (wk_ior 5 32 r164_77 (by decide) ⟨by omega, by omega⟩ ⟨by omega, by omega⟩ ?_))
              intro v854 h855 h856 h857 h858 h859
              have hor9 := bit_or (t := v774) (k := v840) (b := v844) ⟨by omega, by omega⟩ (by omega) (by omega) h847 h859 (by omega)
              refine wk_is3 r164_78 rfl (wk_al0 r164_79 (wk_getfr r164_80 fd_6_0 (br_6_0 hP781) (wk_cv1 r164_83 kc_9_241 rfl (n7241_9 _ M780 x9_1 v787 T hP781 e792 (by first | with_reducible assumption | omega) (by first | with_reducible assumption | omega) e790 (by first | with_reducible assumption | omega) (by first | with_reducible assumption | omega) (by omega) pr801) (cqV ?_))))
              rintro M860 ⟨hP861, hQ862, h864, h865, h866, h867, xh868, pr869, pr870⟩
              have hF863 : Fr fm_n7164_6 M0 M860 := hF782.tr hQ862 rfl
              obtain ⟨v871, e872⟩ : ∃ v, M860 9 3 = v := ⟨_, rfl⟩
              have h873 := (bf_9_3 hP861).1; rw [e872] at h873
              have h874 := (bf_9_3 hP861).2; rw [e872] at h874
              obtain ⟨v875, e876⟩ : ∃ v, M860 9 2 = v := ⟨_, rfl⟩
              have h877 := (bf_9_2 hP861).1; rw [e876] at h877
              have h878 := (bf_9_2 hP861).2; rw [e876] at h878
              have hn879 := nx_of pr802 e792 e786 e790 xh868
              refine wk_inc4 r164_86 rfl (wk_goto r164_89 ?_)
              exact wp_fg (le_s (le_s (le_s (le_s (le_s (le_n le_0)))))) (ih900 (5 - (v777 + 1)).toNat (by omega) M860 v854 (v777 + 1) v871 v875 rfl hP861 hF863 e872 e876 ((hQ862.at g_9_1 rfl).trans e792) ((hQ862.at g_6_3 rfl).trans e793) ((hQ862.at g_7_2 rfl).trans e794) ((hQ862.at g_7_3 rfl).trans e795) ((hQ862.at g_7_4 rfl).trans e796) ((hQ862.at g_7_5 rfl).trans e797) ((hQ862.at g_7_6 rfl).trans e798) ((hQ862.at g_6_4 rfl).trans e799) ((hQ862.at g_6_5 rfl).trans e800) (by first | with_reducible assumption | omega) (by first | with_reducible assumption | omega) (by first | with_reducible assumption | omega) (by first | with_reducible assumption | omega) (by first | with_reducible assumption | omega) (by first | with_reducible assumption | omega) (by first | with_reducible assumption | omega) (by first | with_reducible assumption | omega) (fun k => (hQ862.at (ga_8 k) rfl).trans (hu791 k)) pr869 pr870 (by first | with_reducible assumption | omega) (by first | with_reducible assumption | omega) (by first | with_reducible assumption | omega) (by first | with_reducible assumption | omega) (by first | with_reducible assumption | omega) (by first | with_reducible assumption | omega) (by first | with_reducible assumption | omega) (by first | with_reducible assumption | omega) (by first | with_reducible assumption | omega) (by first | with_reducible assumption | omega) (by first | with_reducible assumption | omega) (⟨MP_m (ti814).1 (by omega) (by rw [show kdI T x9_1 v783 = v840 by omega]; omega) (by omega) (by rw [show kdI T x9_1 v783 = v840 by omega]; omega), by rw [hor9.1, bT_add ⟨by omega, by omega⟩ (by omega) (by omega) (by omega)]; have := (ti814).2; omega⟩))
            · intro h880
              refine wk_al0 r164_68 (wk_c1 r164_69 (wk_cv2 r164_70 kc_6_159 rfl (n7159_6 _ M780 5 v783 hP781 (by decide) (by decide) e786 (by first | with_reducible assumption | omega) (by first | with_reducible assumption | omega)) (cqI ?_)))
              rintro v889 M881 ⟨hP882, hQ883, h890, h891, h885, h886, h887, h888⟩
              have hF884 : Fr fm_n7164_6 M0 M881 := hF782.tr hQ883 rfl
              obtain ⟨v892, e893⟩ : ∃ v, M881 6 4 = v := ⟨_, rfl⟩
              have h894 := (bf_6_4 hP882).1; rw [e893] at h894
              have h895 := (bf_6_4 hP882).2; rw [e893] at h895
              obtain ⟨v896, e897⟩ : ∃ v, M881 6 5 = v := ⟨_, rfl⟩
              have h898 := (bf_6_5 hP882).1; rw [e897] at h898
              have h899 := (bf_6_5 hP882).2; rw [e897] at h899
              subst hQ; exact wk_zret r164_73 ⟨by omega, by omega⟩ (⟨rfl, _, rfl, hP882, hF884, by omega, by omega, by have := ((hQ883.at g_9_3 rfl).trans e786); omega, by have := ((hQ883.at g_9_3 rfl).trans e786); omega, by have := ((hQ883.at g_9_2 rfl).trans e790); omega, by have := ((hQ883.at g_9_2 rfl).trans e790); have := ((hQ883.at g_9_3 rfl).trans e786); omega, by have := e893; omega, by have := e897; omega, by omega, by omega, by omega, by omega, fun k a b => by rw [(fun k => (hQ883.at (ga_8 k) rfl).trans (hu791 k)) k]; exact dm0 k a b, Or.inr ⟨by omega, by rw [e897, e893]; exact m_5 (MP_n (ti814).1 (by omega)) (by omega) (by rw [show kdI T x9_1 v783 = v840 by omega]; omega) (by omega) (by omega)⟩, (TXP_sm (Sm.fr hQ883 rfl) pr801), (TCP_sm (Sm.fr hQ883 rfl) pr802)⟩)
      exact wp_fg (le_s (le_s (le_n (le_s (le_s (le_s le_0)))))) (c33_900 _ M36 v69 0 v52 v56 rfl hP37 hF39 e53 e57 ((hQ38.at g_9_1 rfl).trans ((hQ5.at g_9_1 rfl).trans ex9_1)) ((hQ38.at g_6_3 rfl).trans ((hQ5.at g_6_3 rfl).trans ex6_3)) ((hQ38.at g_7_2 rfl).trans ((hQ5.at g_7_2 rfl).trans ex7_2)) ((hQ38.at g_7_3 rfl).trans ((hQ5.at g_7_3 rfl).trans ex7_3)) ((hQ38.at g_7_4 rfl).trans ((hQ5.at g_7_4 rfl).trans ex7_4)) ((hQ38.at g_7_5 rfl).trans ((hQ5.at g_7_5 rfl).trans ex7_5)) ((hQ38.at g_7_6 rfl).trans ((hQ5.at g_7_6 rfl).trans ex7_6)) e61 e65 (by first | with_reducible assumption | omega) (by first | with_reducible assumption | omega) (by first | with_reducible assumption | omega) (by first | with_reducible assumption | omega) (by first | with_reducible assumption | omega) (by first | with_reducible assumption | omega) (by first | with_reducible assumption | omega) (by first | with_reducible assumption | omega) (fun k => (hQ38.at (ga_8 k) rfl).trans ((fun k => (hQ5.at (ga_8 k) rfl).trans (hu2 k)) k)) pr47 pr48 (by first | with_reducible assumption | omega) (by first | with_reducible assumption | omega) (by first | with_reducible assumption | omega) (by first | with_reducible assumption | omega) (by first | with_reducible assumption | omega) (by first | with_reducible assumption | omega) (by first | with_reducible assumption | omega) (by first | with_reducible assumption | omega) (by first | with_reducible assumption | omega) (by first | with_reducible assumption | omega) (by first | with_reducible assumption | omega) (⟨MP_0 r1 (by omega) (by omega) (by have := h72; have := kdI_c T x9_1 v19; rw [show kdI T x9_1 v19 = v49 by omega]; omega), by have q8 := h72; rw [q8]; exact bT_pw (by omega) (by omega)⟩))
    · intro h901
      refine wk_c1 r164_24 ?_
      subst hQ; exact wk_zret r164_25 (by decide) (⟨rfl, _, rfl, hP37, hF39, by omega, by omega, by have := e53; omega, by have := e53; omega, by have := e57; omega, by have := e57; have := e53; omega, by have := e61; omega, by have := e65; omega, by omega, by omega, by omega, by omega, fun k a b => by rw [(fun k => (hQ38.at (ga_8 k) rfl).trans ((fun k => (hQ5.at (ga_8 k) rfl).trans (hu2 k)) k)) k]; exact dm0 k a b, Or.inr ⟨by omega, by rw [e65, e61]; exact m_k r1 (by omega) (by omega) (by omega)⟩, pr47, pr48⟩)
  · intro h902
    refine wk_c1 r164_10 (wk_goto r164_11 (wk_is2 r164_18 rfl (wk_il2 r164_19 (wk_c1 r164_20 ?_))))
    refine wk_icne r164_21 (by decide) (by decide) ?_ ?_
    · intro h903
      exfalso
      omega
    · intro h904
      refine wk_c1 r164_24 ?_
      subst hQ; exact wk_zret r164_25 (by decide) (⟨rfl, _, rfl, hP4, hF6, by omega, by omega, by have := e20; omega, by have := e20; omega, by have := e24; omega, by have := e24; have := e20; omega, by have := e28; omega, by have := e32; omega, by omega, by omega, by omega, by omega, fun k a b => by rw [(fun k => (hQ5.at (ga_8 k) rfl).trans (hu2 k)) k]; exact dm0 k a b, Or.inr ⟨by omega, by rw [e32, e28]; exact CX_mayn xp0 (by omega) (by omega) (by omega)⟩, pr14, pr15⟩)
def fm_n7156_6 : Nat := 4079608508973056
set_option maxHeartbeats 20000000 in
/-- IslandHall$Parser.clause -/
theorem n7156_6 {B : eB} (d : Nat) (M0 : Mm) (x9_1 : Int) (x9_3 : Int) (x9_2 : Int) (x6_4 : Int) (x6_5 : Int) (x6_3 : Int) (x7_2 : Int) (x7_3 : Int) (x7_4 : Int) (x7_5 : Int) (x7_6 : Int) (T : Int → Int) (i0 : Ig) (F : List Int) (hP0 : Pw M0) (ex9_1 : M0 9 1 = x9_1) (lx9_1 : 0 ≤ x9_1) (ux9_1 : x9_1 ≤ 500) (ex9_3 : M0 9 3 = x9_3) (lx9_3 : 0 ≤ x9_3) (ux9_3 : x9_3 ≤ 500) (ex9_2 : M0 9 2 = x9_2) (lx9_2 : 0 ≤ x9_2) (ux9_2 : x9_2 ≤ 500) (ex6_4 : M0 6 4 = x6_4) (lx6_4 : 0 ≤ x6_4) (ux6_4 : x6_4 ≤ 6) (ex6_5 : M0 6 5 = x6_5) (lx6_5 : (-1) ≤ x6_5) (ux6_5 : x6_5 ≤ 500) (ex6_3 : M0 6 3 = x6_3) (lx6_3 : (-1) ≤ x6_3) (ux6_3 : x6_3 ≤ 7) (ex7_2 : M0 7 2 = x7_2) (lx7_2 : (-1) ≤ x7_2) (ux7_2 : x7_2 ≤ 4) (ex7_3 : M0 7 3 = x7_3) (lx7_3 : (-1) ≤ x7_3) (ux7_3 : x7_3 ≤ 6) (ex7_4 : M0 7 4 = x7_4) (lx7_4 : 0 ≤ x7_4) (ux7_4 : x7_4 ≤ 127) (ex7_5 : M0 7 5 = x7_5) (lx7_5 : 0 ≤ x7_5) (ux7_5 : x7_5 ≤ 1) (ex7_6 : M0 7 6 = x7_6) (lx7_6 : 0 ≤ x7_6) (ux7_6 : x7_6 ≤ 1) (rp0 : 0 ≤ x9_1 + (-1) * x9_2) (rp1 : 0 ≤ x9_2 + (-1) * x9_3) (rp2 : 0 ≤ x9_1 + (-1) * x9_3) (xp0 : Ri T x9_1 x6_3 i0 (0, x9_3, 0, 0, (x7_2, x7_3, x7_5, x7_6, nrF (fun k => M0 8 k) x7_4 F))) (xp1 : tt T x9_1 x9_3 ≠ 0) (xp2 : ∀ k : Int, 0 ≤ k → k < 7 → 1 ≤ M0 8 k) (xp3 : FLc T x9_1 x6_3 F (CLm M0)) (xp4 : 2 * ((CLm M0).length : Int) ≤ x9_3 + 2) (pp_TX : TXP T M0) (pp_TC : TCP T M0) : Ct B (d + 63) 156 [R 6] M0 (qI fun z M => Pw M ∧ Fr fm_n7156_6 M0 M ∧ 0 ≤ z ∧ z ≤ 1 ∧ 0 ≤ M 9 3 + (-1) * x9_3 ∧ 0 ≤ x9_1 + (-1) * (M 9 3) ∧ 0 ≤ x9_1 + (-1) * (M 9 2) ∧ 0 ≤ M 9 2 + (-1) * (M 9 3) ∧ 0 ≤ M 6 4 ∧ 0 ≤ M 6 5 + 1 ∧ 0 ≤ M 7 2 + 1 ∧ 0 ≤ M 7 3 + 1 ∧ 0 ≤ M 7 5 + 0 ∧ 0 ≤ M 7 6 + 0 ∧ 0 ≤ M 7 4 ∧ (z = 1 → 0 ≤ M 6 4 + (-1) * x6_4) ∧ (z = 1 → 0 ≤ (-1) * (M 6 4) + x6_4) ∧ (z = 1 → 0 ≤ M 6 5 + (-1) * x6_5) ∧ (z = 1 → 0 ≤ (-1) * (M 6 5) + x6_5) ∧ (∀ k : Int, 0 ≤ k → k < 7 → 1 ≤ M 8 k) ∧ ((z = 1 ∧ ∃ F : List Int, Ri T x9_1 x6_3 i0 (5, M 9 3, 0, 0, (M 7 2, M 7 3, M 7 5, M 7 6, nrF (fun k => M 8 k) (M 7 4) F)) ∧ FLc T x9_1 x6_3 F (CLm M) ∧ 2 * ((CLm M).length : Int) ≤ M 9 3 + 2) ∨ (z = 0 ∧ Ri T x9_1 x6_3 i0 (fI (M 6 5) (M 6 4)))) ∧ (TXP T M) ∧ (TCP T M) ∧ (OCe M M0)) := by
  refine ct_of (d := d + 62) (k := 0) (L := [some (R 6)]) rfl rfl rfl ?_
  have hF0 := Fr.rf fm_n7156_6 M0
  generalize hQ : (qI fun z M => Pw M ∧ Fr fm_n7156_6 M0 M ∧ 0 ≤ z ∧ z ≤ 1 ∧ 0 ≤ M 9 3 + (-1) * x9_3 ∧ 0 ≤ x9_1 + (-1) * (M 9 3) ∧ 0 ≤ x9_1 + (-1) * (M 9 2) ∧ 0 ≤ M 9 2 + (-1) * (M 9 3) ∧ 0 ≤ M 6 4 ∧ 0 ≤ M 6 5 + 1 ∧ 0 ≤ M 7 2 + 1 ∧ 0 ≤ M 7 3 + 1 ∧ 0 ≤ M 7 5 + 0 ∧ 0 ≤ M 7 6 + 0 ∧ 0 ≤ M 7 4 ∧ (z = 1 → 0 ≤ M 6 4 + (-1) * x6_4) ∧ (z = 1 → 0 ≤ (-1) * (M 6 4) + x6_4) ∧ (z = 1 → 0 ≤ M 6 5 + (-1) * x6_5) ∧ (z = 1 → 0 ≤ (-1) * (M 6 5) + x6_5) ∧ (∀ k : Int, 0 ≤ k → k < 7 → 1 ≤ M 8 k) ∧ ((z = 1 ∧ ∃ F : List Int, Ri T x9_1 x6_3 i0 (5, M 9 3, 0, 0, (M 7 2, M 7 3, M 7 5, M 7 6, nrF (fun k => M 8 k) (M 7 4) F)) ∧ FLc T x9_1 x6_3 F (CLm M) ∧ 2 * ((CLm M).length : Int) ≤ M 9 3 + 2) ∨ (z = 0 ∧ Ri T x9_1 x6_3 i0 (fI (M 6 5) (M 6 4)))) ∧ (TXP T M) ∧ (TCP T M) ∧ (OCe M M0)) = Q
  obtain ⟨u1, hu2⟩ : ∃ u : Int → Int, ∀ k, M0 8 k = u k := ⟨fun k => M0 8 k, fun k => rfl⟩
  have e8 : ∀ (lv : Int) (F : List Int), nrF (fun k => M0 8 k) lv F = nrF u1 lv F := fun lv F => nr_eq (fun k _ _ => hu2 k) rfl rfl
  rw [e8] at xp0
  have dm0 : ∀ k : Int, 0 ≤ k → k < 7 → 1 ≤ u1 k := fun k a b => by rw [← hu2 k]; exact xp2 k a b
  have hCe : CLe M0 (CLm M0) := ⟨pcE hP0, rfl⟩
  have hOe : OCe M0 M0 := OCe_rf M0
  refine wk_al0 r156_0 (wk_c8 r156_1 (wk_cv2 r156_3 kc_6_175 rfl (n7175_6 _ M0 4120 x9_1 x9_3 x9_2 T hP0 (by decide) ex9_1 (by first | with_reducible assumption | omega) (by first | with_reducible assumption | omega) ex9_3 (by first | with_reducible assumption | omega) (by first | with_reducible assumption | omega) ex9_2 (by first | with_reducible assumption | omega) (by first | with_reducible assumption | omega) (by omega) (by omega) (by omega) (by first | assumption | omega | (unfold stepok; omega)) pp_TX pp_TC) (cqI ?_)))
  rintro v15 M3 ⟨hP4, hQ5, h16, h17, h7, h8, h9, h10, h11, xh12, pr13, pr14⟩
  have hF6 : Fr fm_n7156_6 M0 M3 := hF0.tr hQ5 rfl
  obtain ⟨v18, e19⟩ : ∃ v, M3 9 3 = v := ⟨_, rfl⟩
  have h20 := (bf_9_3 hP4).1; rw [e19] at h20
  have h21 := (bf_9_3 hP4).2; rw [e19] at h21
  obtain ⟨v22, e23⟩ : ∃ v, M3 9 2 = v := ⟨_, rfl⟩
  have h24 := (bf_9_2 hP4).1; rw [e23] at h24
  have h25 := (bf_9_2 hP4).2; rw [e23] at h25
  rw [show wix 4120 = 6 from rfl] at xh12
  refine wk_ifeq r156_6 ⟨by omega, by omega⟩ ?_ ?_
  · intro h26
    clear h11
    obtain rfl : x9_3 = v18 := by omega
    obtain rfl : x9_2 = v22 := by omega
    refine wk_al0 r156_14 (wk_c8 r156_15 (wk_cv2 r156_17 kc_6_175 rfl (n7175_6 _ M3 4121 x9_1 x9_3 x9_2 T hP4 (by decide) ((hQ5.at g_9_1 rfl).trans ex9_1) (by first | with_reducible assumption | omega) (by first | with_reducible assumption | omega) e19 (by first | with_reducible assumption | omega) (by first | with_reducible assumption | omega) e23 (by first | with_reducible assumption | omega) (by first | with_reducible assumption | omega) (by omega) (by omega) (by omega) (by first | assumption | omega | (unfold stepok; omega)) pr13 pr14) (cqI ?_)))
    rintro v39 M27 ⟨hP28, hQ29, h40, h41, h31, h32, h33, h34, h35, xh36, pr37, pr38⟩
    have hF30 : Fr fm_n7156_6 M0 M27 := hF6.tr hQ29 rfl
    obtain ⟨v42, e43⟩ : ∃ v, M27 9 3 = v := ⟨_, rfl⟩
    have h44 := (bf_9_3 hP28).1; rw [e43] at h44
    have h45 := (bf_9_3 hP28).2; rw [e43] at h45
    obtain ⟨v46, e47⟩ : ∃ v, M27 9 2 = v := ⟨_, rfl⟩
    have h48 := (bf_9_2 hP28).1; rw [e47] at h48
    have h49 := (bf_9_2 hP28).2; rw [e47] at h49
    rw [show wix 4121 = 9 from rfl] at xh36
    refine wk_ifeq r156_20 ⟨by omega, by omega⟩ ?_ ?_
    · intro h50
      clear h35
      obtain rfl : x9_3 = v42 := by omega
      obtain rfl : x9_2 = v46 := by omega
      refine wk_al0 r156_28 (wk_c8 r156_29 (wk_cv2 r156_31 kc_6_175 rfl (n7175_6 _ M27 4122 x9_1 x9_3 x9_2 T hP28 (by decide) ((hQ29.at g_9_1 rfl).trans ((hQ5.at g_9_1 rfl).trans ex9_1)) (by first | with_reducible assumption | omega) (by first | with_reducible assumption | omega) e43 (by first | with_reducible assumption | omega) (by first | with_reducible assumption | omega) e47 (by first | with_reducible assumption | omega) (by first | with_reducible assumption | omega) (by omega) (by omega) (by omega) (by first | assumption | omega | (unfold stepok; omega)) pr37 pr38) (cqI ?_)))
      rintro v63 M51 ⟨hP52, hQ53, h64, h65, h55, h56, h57, h58, h59, xh60, pr61, pr62⟩
      have hF54 : Fr fm_n7156_6 M0 M51 := hF30.tr hQ53 rfl
      obtain ⟨v66, e67⟩ : ∃ v, M51 9 3 = v := ⟨_, rfl⟩
      have h68 := (bf_9_3 hP52).1; rw [e67] at h68
      have h69 := (bf_9_3 hP52).2; rw [e67] at h69
      obtain ⟨v70, e71⟩ : ∃ v, M51 9 2 = v := ⟨_, rfl⟩
      have h72 := (bf_9_2 hP52).1; rw [e71] at h72
      have h73 := (bf_9_2 hP52).2; rw [e71] at h73
      rw [show wix 4122 = 11 from rfl] at xh60
      refine wk_ifeq r156_34 ⟨by omega, by omega⟩ ?_ ?_
      · intro h74
        clear h59
        obtain rfl : x9_3 = v66 := by omega
        obtain rfl : x9_2 = v70 := by omega
        refine wk_al0 r156_60 (wk_c8 r156_61 (wk_cv2 r156_63 kc_6_175 rfl (n7175_6 _ M51 4123 x9_1 x9_3 x9_2 T hP52 (by decide) ((hQ53.at g_9_1 rfl).trans ((hQ29.at g_9_1 rfl).trans ((hQ5.at g_9_1 rfl).trans ex9_1))) (by first | with_reducible assumption | omega) (by first | with_reducible assumption | omega) e67 (by first | with_reducible assumption | omega) (by first | with_reducible assumption | omega) e71 (by first | with_reducible assumption | omega) (by first | with_reducible assumption | omega) (by omega) (by omega) (by omega) (by first | assumption | omega | (unfold stepok; omega)) pr61 pr62) (cqI ?_)))
        rintro v87 M75 ⟨hP76, hQ77, h88, h89, h79, h80, h81, h82, h83, xh84, pr85, pr86⟩
        have hF78 : Fr fm_n7156_6 M0 M75 := hF54.tr hQ77 rfl
        obtain ⟨v90, e91⟩ : ∃ v, M75 9 3 = v := ⟨_, rfl⟩
        have h92 := (bf_9_3 hP76).1; rw [e91] at h92
        have h93 := (bf_9_3 hP76).2; rw [e91] at h93
        obtain ⟨v94, e95⟩ : ∃ v, M75 9 2 = v := ⟨_, rfl⟩
        have h96 := (bf_9_2 hP76).1; rw [e95] at h96
        have h97 := (bf_9_2 hP76).2; rw [e95] at h97
        rw [show wix 4123 = 10 from rfl] at xh84
        refine wk_ifeq r156_66 ⟨by omega, by omega⟩ ?_ ?_
        · intro h98
          clear h83
          obtain rfl : x9_3 = v90 := by omega
          obtain rfl : x9_2 = v94 := by omega
          refine wk_al0 r156_79 (wk_c8 r156_80 (wk_cv2 r156_82 kc_6_175 rfl (n7175_6 _ M75 4124 x9_1 x9_3 x9_2 T hP76 (by decide) ((hQ77.at g_9_1 rfl).trans ((hQ53.at g_9_1 rfl).trans ((hQ29.at g_9_1 rfl).trans ((hQ5.at g_9_1 rfl).trans ex9_1)))) (by first | with_reducible assumption | omega) (by first | with_reducible assumption | omega) e91 (by first | with_reducible assumption | omega) (by first | with_reducible assumption | omega) e95 (by first | with_reducible assumption | omega) (by first | with_reducible assumption | omega) (by omega) (by omega) (by omega) (by first | assumption | omega | (unfold stepok; omega)) pr85 pr86) (cqI ?_)))
          rintro v111 M99 ⟨hP100, hQ101, h112, h113, h103, h104, h105, h106, h107, xh108, pr109, pr110⟩
          have hF102 : Fr fm_n7156_6 M0 M99 := hF78.tr hQ101 rfl
          obtain ⟨v114, e115⟩ : ∃ v, M99 9 3 = v := ⟨_, rfl⟩
          have h116 := (bf_9_3 hP100).1; rw [e115] at h116
          have h117 := (bf_9_3 hP100).2; rw [e115] at h117
          obtain ⟨v118, e119⟩ : ∃ v, M99 9 2 = v := ⟨_, rfl⟩
          have h120 := (bf_9_2 hP100).1; rw [e119] at h120
          have h121 := (bf_9_2 hP100).2; rw [e119] at h121
          rw [show wix 4124 = 7 from rfl] at xh108
          refine wk_ifeq r156_85 ⟨by omega, by omega⟩ ?_ ?_
          · intro h122
            clear h107
            obtain rfl : x9_3 = v114 := by omega
            obtain rfl : x9_2 = v118 := by omega
            refine wk_al0 r156_118 (wk_c8 r156_119 (wk_cv2 r156_121 kc_6_175 rfl (n7175_6 _ M99 4115 x9_1 x9_3 x9_2 T hP100 (by decide) ((hQ101.at g_9_1 rfl).trans ((hQ77.at g_9_1 rfl).trans ((hQ53.at g_9_1 rfl).trans ((hQ29.at g_9_1 rfl).trans ((hQ5.at g_9_1 rfl).trans ex9_1))))) (by first | with_reducible assumption | omega) (by first | with_reducible assumption | omega) e115 (by first | with_reducible assumption | omega) (by first | with_reducible assumption | omega) e119 (by first | with_reducible assumption | omega) (by first | with_reducible assumption | omega) (by omega) (by omega) (by omega) (by first | assumption | omega | (unfold stepok; omega)) pr109 pr110) (cqI ?_)))
            rintro v135 M123 ⟨hP124, hQ125, h136, h137, h127, h128, h129, h130, h131, xh132, pr133, pr134⟩
            have hF126 : Fr fm_n7156_6 M0 M123 := hF102.tr hQ125 rfl
            obtain ⟨v138, e139⟩ : ∃ v, M123 9 3 = v := ⟨_, rfl⟩
            have h140 := (bf_9_3 hP124).1; rw [e139] at h140
            have h141 := (bf_9_3 hP124).2; rw [e139] at h141
            obtain ⟨v142, e143⟩ : ∃ v, M123 9 2 = v := ⟨_, rfl⟩
            have h144 := (bf_9_2 hP124).1; rw [e143] at h144
            have h145 := (bf_9_2 hP124).2; rw [e143] at h145
            rw [show wix 4115 = 8 from rfl] at xh132
            refine wk_ifeq r156_124 ⟨by omega, by omega⟩ ?_ ?_
            · intro h146
              clear h131
              obtain rfl : x9_3 = v138 := by omega
              obtain rfl : x9_2 = v142 := by omega
              refine wk_al0 r156_158 (wk_c1 r156_159 (wk_cv2 r156_160 kc_6_159 rfl (n7159_6 _ M123 1 x9_3 hP124 (by decide) (by decide) e139 (by first | with_reducible assumption | omega) (by first | with_reducible assumption | omega)) (cqI ?_)))
              rintro v155 M147 ⟨hP148, hQ149, h156, h157, h151, h152, h153, h154⟩
              have hF150 : Fr fm_n7156_6 M0 M147 := hF126.tr hQ149 rfl
              obtain ⟨v158, e159⟩ : ∃ v, M147 6 4 = v := ⟨_, rfl⟩
              have h160 := (bf_6_4 hP148).1; rw [e159] at h160
              have h161 := (bf_6_4 hP148).2; rw [e159] at h161
              obtain ⟨v162, e163⟩ : ∃ v, M147 6 5 = v := ⟨_, rfl⟩
              have h164 := (bf_6_5 hP148).1; rw [e163] at h164
              have h165 := (bf_6_5 hP148).2; rw [e163] at h165
              subst hQ; exact wk_zret r156_163 ⟨by omega, by omega⟩ (⟨rfl, _, rfl, hP148, hF150, by omega, by omega, by have := ((hQ149.at g_9_3 rfl).trans e139); omega, by have := ((hQ149.at g_9_3 rfl).trans e139); omega, by have := ((hQ149.at g_9_2 rfl).trans e143); omega, by have := ((hQ149.at g_9_2 rfl).trans e143); have := ((hQ149.at g_9_3 rfl).trans e139); omega, by have := e159; omega, by have := e163; omega, by have := ((hQ149.at g_7_2 rfl).trans ((hQ125.at g_7_2 rfl).trans ((hQ101.at g_7_2 rfl).trans ((hQ77.at g_7_2 rfl).trans ((hQ53.at g_7_2 rfl).trans ((hQ29.at g_7_2 rfl).trans ((hQ5.at g_7_2 rfl).trans ex7_2))))))); omega, by have := ((hQ149.at g_7_3 rfl).trans ((hQ125.at g_7_3 rfl).trans ((hQ101.at g_7_3 rfl).trans ((hQ77.at g_7_3 rfl).trans ((hQ53.at g_7_3 rfl).trans ((hQ29.at g_7_3 rfl).trans ((hQ5.at g_7_3 rfl).trans ex7_3))))))); omega, by have := ((hQ149.at g_7_5 rfl).trans ((hQ125.at g_7_5 rfl).trans ((hQ101.at g_7_5 rfl).trans ((hQ77.at g_7_5 rfl).trans ((hQ53.at g_7_5 rfl).trans ((hQ29.at g_7_5 rfl).trans ((hQ5.at g_7_5 rfl).trans ex7_5))))))); omega, by have := ((hQ149.at g_7_6 rfl).trans ((hQ125.at g_7_6 rfl).trans ((hQ101.at g_7_6 rfl).trans ((hQ77.at g_7_6 rfl).trans ((hQ53.at g_7_6 rfl).trans ((hQ29.at g_7_6 rfl).trans ((hQ5.at g_7_6 rfl).trans ex7_6))))))); omega, by have := ((hQ149.at g_7_4 rfl).trans ((hQ125.at g_7_4 rfl).trans ((hQ101.at g_7_4 rfl).trans ((hQ77.at g_7_4 rfl).trans ((hQ53.at g_7_4 rfl).trans ((hQ29.at g_7_4 rfl).trans ((hQ5.at g_7_4 rfl).trans ex7_4))))))); omega, by omega, by omega, by omega, by omega, fun k a b => by rw [(fun k => (hQ149.at (ga_8 k) rfl).trans ((fun k => (hQ125.at (ga_8 k) rfl).trans ((fun k => (hQ101.at (ga_8 k) rfl).trans ((fun k => (hQ77.at (ga_8 k) rfl).trans ((fun k => (hQ53.at (ga_8 k) rfl).trans ((fun k => (hQ29.at (ga_8 k) rfl).trans ((fun k => (hQ5.at (ga_8 k) rfl).trans (hu2 k)) k)) k)) k)) k)) k)) k)) k]; exact dm0 k a b, Or.inr ⟨by omega, by rw [e163, e159]; exact c_bad xp0 xp1 (by omega) (by omega) (by omega) (by omega) (by omega) (by omega) (by omega) (by omega)⟩, (TXP_sm (Sm.fr hQ149 rfl) pr133), (TCP_sm (Sm.fr hQ149 rfl) pr134), (OCe_sm (Sm.fr hQ149 rfl) (OCe_sm (Sm.fr hQ125 rfl) (OCe_sm (Sm.fr hQ101 rfl) (OCe_sm (Sm.fr hQ77 rfl) (OCe_sm (Sm.fr hQ53 rfl) (OCe_sm (Sm.fr hQ29 rfl) (OCe_sm (Sm.fr hQ5 rfl) hOe)))))))⟩)
            · intro h166
              replace h131 := h131 (z1_of h136 h137 h166)
              refine wk_al0 r156_127 (wk_getfr r156_128 fd_6_1 (br_6_1 hP124) (wk_al0 r156_131 (wk_c1 r156_132 (wk_c2 r156_133 (wk_cv3 r156_135 kc_6_167 rfl (n7167_6 _ M123 0 6 x9_1 v138 v142 x6_4 x6_5 T hP124 (by decide) (by decide) (by decide) (by decide) ((hQ125.at g_9_1 rfl).trans ((hQ101.at g_9_1 rfl).trans ((hQ77.at g_9_1 rfl).trans ((hQ53.at g_9_1 rfl).trans ((hQ29.at g_9_1 rfl).trans ((hQ5.at g_9_1 rfl).trans ex9_1)))))) (by first | with_reducible assumption | omega) (by first | with_reducible assumption | omega) e139 (by first | with_reducible assumption | omega) (by first | with_reducible assumption | omega) e143 (by first | with_reducible assumption | omega) (by first | with_reducible assumption | omega) ((hQ125.at g_6_4 rfl).trans ((hQ101.at g_6_4 rfl).trans ((hQ77.at g_6_4 rfl).trans ((hQ53.at g_6_4 rfl).trans ((hQ29.at g_6_4 rfl).trans ((hQ5.at g_6_4 rfl).trans ex6_4)))))) (by first | with_reducible assumption | omega) (by first | with_reducible assumption | omega) ((hQ125.at g_6_5 rfl).trans ((hQ101.at g_6_5 rfl).trans ((hQ77.at g_6_5 rfl).trans ((hQ53.at g_6_5 rfl).trans ((hQ29.at g_6_5 rfl).trans ((hQ5.at g_6_5 rfl).trans ex6_5)))))) (by first | with_reducible assumption | omega) (by first | with_reducible assumption | omega) (by omega) (by omega) (by omega) pr133 pr134) (cqI ?_))))))
              rintro v181 M167 ⟨hP168, hQ169, h182, h183, h171, h172, h173, h174, h175, h176, h177, xh178, pr179, pr180⟩
              have hF170 : Fr fm_n7156_6 M0 M167 := hF126.tr hQ169 rfl
              obtain ⟨v184, e185⟩ : ∃ v, M167 9 3 = v := ⟨_, rfl⟩
              have h186 := (bf_9_3 hP168).1; rw [e185] at h186
              have h187 := (bf_9_3 hP168).2; rw [e185] at h187
              obtain ⟨v188, e189⟩ : ∃ v, M167 9 2 = v := ⟨_, rfl⟩
              have h190 := (bf_9_2 hP168).1; rw [e189] at h190
              have h191 := (bf_9_2 hP168).2; rw [e189] at h191
              obtain ⟨v192, e193⟩ : ∃ v, M167 6 4 = v := ⟨_, rfl⟩
              have h194 := (bf_6_4 hP168).1; rw [e193] at h194
              have h195 := (bf_6_4 hP168).2; rw [e193] at h195
              obtain ⟨v196, e197⟩ : ∃ v, M167 6 5 = v := ⟨_, rfl⟩
              have h198 := (bf_6_5 hP168).1; rw [e197] at h198
              have h199 := (bf_6_5 hP168).2; rw [e197] at h199
              refine wk_putfi81 r156_138 fd_7_3 (wk_nw g_7_3 rfl hP168 hF170 (uf_7_3 ⟨by omega, by omega⟩) ?_)
              intro M200 hP201 hF202 e203
              refine wk_al0 r156_141 (wk_getfr r156_142 fd_6_1 (br_6_1 hP201) (wk_getfi r156_145 fd_7_3 (mUp_at e203) (wk_c1 r156_148 ?_)))
              refine wk_iceq r156_149 ⟨by omega, by omega⟩ (by decide) ?_ ?_
              · intro h204
                refine wk_c1 r156_156 ?_
                subst hQ; exact wk_zret r156_157 (by decide) (⟨rfl, _, rfl, hP201, hF202, by omega, by omega, by have := (mUp_no e203 e185 (Or.inl (by decide))); omega, by have := (mUp_no e203 e185 (Or.inl (by decide))); omega, by have := (mUp_no e203 e189 (Or.inl (by decide))); omega, by have := (mUp_no e203 e189 (Or.inl (by decide))); have := (mUp_no e203 e185 (Or.inl (by decide))); omega, by have := (mUp_no e203 e193 (Or.inl (by decide))); omega, by have := (mUp_no e203 e197 (Or.inl (by decide))); omega, by have := (mUp_no e203 ((hQ169.at g_7_2 rfl).trans ((hQ125.at g_7_2 rfl).trans ((hQ101.at g_7_2 rfl).trans ((hQ77.at g_7_2 rfl).trans ((hQ53.at g_7_2 rfl).trans ((hQ29.at g_7_2 rfl).trans ((hQ5.at g_7_2 rfl).trans ex7_2))))))) (Or.inr (by decide))); omega, by have := (mUp_at e203); omega, by have := (mUp_no e203 ((hQ169.at g_7_5 rfl).trans ((hQ125.at g_7_5 rfl).trans ((hQ101.at g_7_5 rfl).trans ((hQ77.at g_7_5 rfl).trans ((hQ53.at g_7_5 rfl).trans ((hQ29.at g_7_5 rfl).trans ((hQ5.at g_7_5 rfl).trans ex7_5))))))) (Or.inr (by decide))); omega, by have := (mUp_no e203 ((hQ169.at g_7_6 rfl).trans ((hQ125.at g_7_6 rfl).trans ((hQ101.at g_7_6 rfl).trans ((hQ77.at g_7_6 rfl).trans ((hQ53.at g_7_6 rfl).trans ((hQ29.at g_7_6 rfl).trans ((hQ5.at g_7_6 rfl).trans ex7_6))))))) (Or.inr (by decide))); omega, by have := (mUp_no e203 ((hQ169.at g_7_4 rfl).trans ((hQ125.at g_7_4 rfl).trans ((hQ101.at g_7_4 rfl).trans ((hQ77.at g_7_4 rfl).trans ((hQ53.at g_7_4 rfl).trans ((hQ29.at g_7_4 rfl).trans ((hQ5.at g_7_4 rfl).trans ex7_4))))))) (Or.inr (by decide))); omega, by omega, by omega, by omega, by omega, fun k a b => by rw [(fun k => mUp_no e203 ((fun k => (hQ169.at (ga_8 k) rfl).trans ((fun k => (hQ125.at (ga_8 k) rfl).trans ((fun k => (hQ101.at (ga_8 k) rfl).trans ((fun k => (hQ77.at (ga_8 k) rfl).trans ((fun k => (hQ53.at (ga_8 k) rfl).trans ((fun k => (hQ29.at (ga_8 k) rfl).trans ((fun k => (hQ5.at (ga_8 k) rfl).trans (hu2 k)) k)) k)) k)) k)) k)) k)) k) (Or.inl (by decide))) k]; exact dm0 k a b, Or.inr ⟨by omega, by rw [(mUp_no e203 e197 (Or.inl (by decide))), (mUp_no e203 e193 (Or.inl (by decide)))]; exact c_dayn (s1 := v138) xp0 (by omega) (by omega) (by omega) (by omega) (by omega)⟩, (TXP_sm (Sm.up e203 g_7_3 rfl) pr179), (TCP_sm (Sm.up e203 g_7_3 rfl) pr180), (OCe_sm (Sm.up e203 g_7_3 rfl) (OCe_sm (Sm.fr hQ169 rfl) (OCe_sm (Sm.fr hQ125 rfl) (OCe_sm (Sm.fr hQ101 rfl) (OCe_sm (Sm.fr hQ77 rfl) (OCe_sm (Sm.fr hQ53 rfl) (OCe_sm (Sm.fr hQ29 rfl) (OCe_sm (Sm.fr hQ5 rfl) hOe))))))))⟩)
              · intro h205
                refine wk_c1 r156_152 (wk_goto r156_153 ?_)
                subst hQ; exact wk_zret r156_157 (by decide) (⟨rfl, _, rfl, hP201, hF202, by omega, by omega, by have := (mUp_no e203 e185 (Or.inl (by decide))); omega, by have := (mUp_no e203 e185 (Or.inl (by decide))); omega, by have := (mUp_no e203 e189 (Or.inl (by decide))); omega, by have := (mUp_no e203 e189 (Or.inl (by decide))); have := (mUp_no e203 e185 (Or.inl (by decide))); omega, by have := (mUp_no e203 e193 (Or.inl (by decide))); omega, by have := (mUp_no e203 e197 (Or.inl (by decide))); omega, by have := (mUp_no e203 ((hQ169.at g_7_2 rfl).trans ((hQ125.at g_7_2 rfl).trans ((hQ101.at g_7_2 rfl).trans ((hQ77.at g_7_2 rfl).trans ((hQ53.at g_7_2 rfl).trans ((hQ29.at g_7_2 rfl).trans ((hQ5.at g_7_2 rfl).trans ex7_2))))))) (Or.inr (by decide))); omega, by have := (mUp_at e203); omega, by have := (mUp_no e203 ((hQ169.at g_7_5 rfl).trans ((hQ125.at g_7_5 rfl).trans ((hQ101.at g_7_5 rfl).trans ((hQ77.at g_7_5 rfl).trans ((hQ53.at g_7_5 rfl).trans ((hQ29.at g_7_5 rfl).trans ((hQ5.at g_7_5 rfl).trans ex7_5))))))) (Or.inr (by decide))); omega, by have := (mUp_no e203 ((hQ169.at g_7_6 rfl).trans ((hQ125.at g_7_6 rfl).trans ((hQ101.at g_7_6 rfl).trans ((hQ77.at g_7_6 rfl).trans ((hQ53.at g_7_6 rfl).trans ((hQ29.at g_7_6 rfl).trans ((hQ5.at g_7_6 rfl).trans ex7_6))))))) (Or.inr (by decide))); omega, by have := (mUp_no e203 ((hQ169.at g_7_4 rfl).trans ((hQ125.at g_7_4 rfl).trans ((hQ101.at g_7_4 rfl).trans ((hQ77.at g_7_4 rfl).trans ((hQ53.at g_7_4 rfl).trans ((hQ29.at g_7_4 rfl).trans ((hQ5.at g_7_4 rfl).trans ex7_4))))))) (Or.inr (by decide))); omega, by have := (mUp_no e203 e193 (Or.inl (by decide))); omega, by have := (mUp_no e203 e193 (Or.inl (by decide))); omega, by have := (mUp_no e203 e197 (Or.inl (by decide))); omega, by have := (mUp_no e203 e197 (Or.inl (by decide))); omega, fun k a b => by rw [(fun k => mUp_no e203 ((fun k => (hQ169.at (ga_8 k) rfl).trans ((fun k => (hQ125.at (ga_8 k) rfl).trans ((fun k => (hQ101.at (ga_8 k) rfl).trans ((fun k => (hQ77.at (ga_8 k) rfl).trans ((fun k => (hQ53.at (ga_8 k) rfl).trans ((fun k => (hQ29.at (ga_8 k) rfl).trans ((fun k => (hQ5.at (ga_8 k) rfl).trans (hu2 k)) k)) k)) k)) k)) k)) k)) k) (Or.inl (by decide))) k]; exact dm0 k a b, Or.inl ⟨by omega, F, by rw [(mUp_no e203 e185 (Or.inl (by decide))), (mUp_no e203 ((hQ169.at g_7_2 rfl).trans ((hQ125.at g_7_2 rfl).trans ((hQ101.at g_7_2 rfl).trans ((hQ77.at g_7_2 rfl).trans ((hQ53.at g_7_2 rfl).trans ((hQ29.at g_7_2 rfl).trans ((hQ5.at g_7_2 rfl).trans ex7_2))))))) (Or.inr (by decide))), (mUp_at e203), (mUp_no e203 ((hQ169.at g_7_4 rfl).trans ((hQ125.at g_7_4 rfl).trans ((hQ101.at g_7_4 rfl).trans ((hQ77.at g_7_4 rfl).trans ((hQ53.at g_7_4 rfl).trans ((hQ29.at g_7_4 rfl).trans ((hQ5.at g_7_4 rfl).trans ex7_4))))))) (Or.inr (by decide))), (mUp_no e203 ((hQ169.at g_7_5 rfl).trans ((hQ125.at g_7_5 rfl).trans ((hQ101.at g_7_5 rfl).trans ((hQ77.at g_7_5 rfl).trans ((hQ53.at g_7_5 rfl).trans ((hQ29.at g_7_5 rfl).trans ((hQ5.at g_7_5 rfl).trans ex7_5))))))) (Or.inr (by decide))), (mUp_no e203 ((hQ169.at g_7_6 rfl).trans ((hQ125.at g_7_6 rfl).trans ((hQ101.at g_7_6 rfl).trans ((hQ77.at g_7_6 rfl).trans ((hQ53.at g_7_6 rfl).trans ((hQ29.at g_7_6 rfl).trans ((hQ5.at g_7_6 rfl).trans ex7_6))))))) (Or.inr (by decide)))]; exact I_c (c_day (s1 := v138) (s2 := v184) (da2 := v181) xp0 (by omega) (by omega) (by omega) (by omega) (by omega)) (by omega) rfl rfl (by omega) (by omega) (by omega) (by omega) (nr_eq (fun k _ _ => (fun k => mUp_no e203 ((fun k => (hQ169.at (ga_8 k) rfl).trans ((fun k => (hQ125.at (ga_8 k) rfl).trans ((fun k => (hQ101.at (ga_8 k) rfl).trans ((fun k => (hQ77.at (ga_8 k) rfl).trans ((fun k => (hQ53.at (ga_8 k) rfl).trans ((fun k => (hQ29.at (ga_8 k) rfl).trans ((fun k => (hQ5.at (ga_8 k) rfl).trans (hu2 k)) k)) k)) k)) k)) k)) k)) k) (Or.inl (by decide))) k) (by omega) rfl), by rw [((CLe_sm (Sm.up e203 g_7_3 rfl) (CLe_sm (Sm.fr hQ169 rfl) (CLe_sm (Sm.fr hQ125 rfl) (CLe_sm (Sm.fr hQ101 rfl) (CLe_sm (Sm.fr hQ77 rfl) (CLe_sm (Sm.fr hQ53 rfl) (CLe_sm (Sm.fr hQ29 rfl) (CLe_sm (Sm.fr hQ5 rfl) hCe))))))))).2, (mUp_no e203 e185 (Or.inl (by decide)))]; exact ⟨xp3, by omega⟩⟩, (TXP_sm (Sm.up e203 g_7_3 rfl) pr179), (TCP_sm (Sm.up e203 g_7_3 rfl) pr180), (OCe_sm (Sm.up e203 g_7_3 rfl) (OCe_sm (Sm.fr hQ169 rfl) (OCe_sm (Sm.fr hQ125 rfl) (OCe_sm (Sm.fr hQ101 rfl) (OCe_sm (Sm.fr hQ77 rfl) (OCe_sm (Sm.fr hQ53 rfl) (OCe_sm (Sm.fr hQ29 rfl) (OCe_sm (Sm.fr hQ5 rfl) hOe))))))))⟩)
          · intro h206
            replace h107 := h107 (z1_of h112 h113 h206)
            refine wk_al0 r156_88 (wk_getfr r156_89 fd_6_1 (br_6_1 hP100) (wk_al0 r156_92 (wk_c1 r156_93 (wk_c1 r156_94 (wk_cv3 r156_95 kc_6_167 rfl (n7167_6 _ M99 1 4 x9_1 v114 v118 x6_4 x6_5 T hP100 (by decide) (by decide) (by decide) (by decide) ((hQ101.at g_9_1 rfl).trans ((hQ77.at g_9_1 rfl).trans ((hQ53.at g_9_1 rfl).trans ((hQ29.at g_9_1 rfl).trans ((hQ5.at g_9_1 rfl).trans ex9_1))))) (by first | with_reducible assumption | omega) (by first | with_reducible assumption | omega) e115 (by first | with_reducible assumption | omega) (by first | with_reducible assumption | omega) e119 (by first | with_reducible assumption | omega) (by first | with_reducible assumption | omega) ((hQ101.at g_6_4 rfl).trans ((hQ77.at g_6_4 rfl).trans ((hQ53.at g_6_4 rfl).trans ((hQ29.at g_6_4 rfl).trans ((hQ5.at g_6_4 rfl).trans ex6_4))))) (by first | with_reducible assumption | omega) (by first | with_reducible assumption | omega) ((hQ101.at g_6_5 rfl).trans ((hQ77.at g_6_5 rfl).trans ((hQ53.at g_6_5 rfl).trans ((hQ29.at g_6_5 rfl).trans ((hQ5.at g_6_5 rfl).trans ex6_5))))) (by first | with_reducible assumption | omega) (by first | with_reducible assumption | omega) (by omega) (by omega) (by omega) pr109 pr110) (cqI ?_))))))
            rintro v221 M207 ⟨hP208, hQ209, h222, h223, h211, h212, h213, h214, h215, h216, h217, xh218, pr219, pr220⟩
            have hF210 : Fr fm_n7156_6 M0 M207 := hF102.tr hQ209 rfl
            obtain ⟨v224, e225⟩ : ∃ v, M207 9 3 = v := ⟨_, rfl⟩
            have h226 := (bf_9_3 hP208).1; rw [e225] at h226
            have h227 := (bf_9_3 hP208).2; rw [e225] at h227
            obtain ⟨v228, e229⟩ : ∃ v, M207 9 2 = v := ⟨_, rfl⟩
            have h230 := (bf_9_2 hP208).1; rw [e229] at h230
            have h231 := (bf_9_2 hP208).2; rw [e229] at h231
            obtain ⟨v232, e233⟩ : ∃ v, M207 6 4 = v := ⟨_, rfl⟩
            have h234 := (bf_6_4 hP208).1; rw [e233] at h234
            have h235 := (bf_6_4 hP208).2; rw [e233] at h235
            obtain ⟨v236, e237⟩ : ∃ v, M207 6 5 = v := ⟨_, rfl⟩
            have h238 := (bf_6_5 hP208).1; rw [e237] at h238
            have h239 := (bf_6_5 hP208).2; rw [e237] at h239
            refine wk_putfi81 r156_98 fd_7_2 (wk_nw g_7_2 rfl hP208 hF210 (uf_7_2 ⟨by omega, by omega⟩) ?_)
            intro M240 hP241 hF242 e243
            refine wk_al0 r156_101 (wk_getfr r156_102 fd_6_1 (br_6_1 hP241) (wk_getfi r156_105 fd_7_2 (mUp_at e243) (wk_c1 r156_108 ?_)))
            refine wk_iceq r156_109 ⟨by omega, by omega⟩ (by decide) ?_ ?_
            · intro h244
              refine wk_c1 r156_116 ?_
              subst hQ; exact wk_zret r156_117 (by decide) (⟨rfl, _, rfl, hP241, hF242, by omega, by omega, by have := (mUp_no e243 e225 (Or.inl (by decide))); omega, by have := (mUp_no e243 e225 (Or.inl (by decide))); omega, by have := (mUp_no e243 e229 (Or.inl (by decide))); omega, by have := (mUp_no e243 e229 (Or.inl (by decide))); have := (mUp_no e243 e225 (Or.inl (by decide))); omega, by have := (mUp_no e243 e233 (Or.inl (by decide))); omega, by have := (mUp_no e243 e237 (Or.inl (by decide))); omega, by have := (mUp_at e243); omega, by have := (mUp_no e243 ((hQ209.at g_7_3 rfl).trans ((hQ101.at g_7_3 rfl).trans ((hQ77.at g_7_3 rfl).trans ((hQ53.at g_7_3 rfl).trans ((hQ29.at g_7_3 rfl).trans ((hQ5.at g_7_3 rfl).trans ex7_3)))))) (Or.inr (by decide))); omega, by have := (mUp_no e243 ((hQ209.at g_7_5 rfl).trans ((hQ101.at g_7_5 rfl).trans ((hQ77.at g_7_5 rfl).trans ((hQ53.at g_7_5 rfl).trans ((hQ29.at g_7_5 rfl).trans ((hQ5.at g_7_5 rfl).trans ex7_5)))))) (Or.inr (by decide))); omega, by have := (mUp_no e243 ((hQ209.at g_7_6 rfl).trans ((hQ101.at g_7_6 rfl).trans ((hQ77.at g_7_6 rfl).trans ((hQ53.at g_7_6 rfl).trans ((hQ29.at g_7_6 rfl).trans ((hQ5.at g_7_6 rfl).trans ex7_6)))))) (Or.inr (by decide))); omega, by have := (mUp_no e243 ((hQ209.at g_7_4 rfl).trans ((hQ101.at g_7_4 rfl).trans ((hQ77.at g_7_4 rfl).trans ((hQ53.at g_7_4 rfl).trans ((hQ29.at g_7_4 rfl).trans ((hQ5.at g_7_4 rfl).trans ex7_4)))))) (Or.inr (by decide))); omega, by omega, by omega, by omega, by omega, fun k a b => by rw [(fun k => mUp_no e243 ((fun k => (hQ209.at (ga_8 k) rfl).trans ((fun k => (hQ101.at (ga_8 k) rfl).trans ((fun k => (hQ77.at (ga_8 k) rfl).trans ((fun k => (hQ53.at (ga_8 k) rfl).trans ((fun k => (hQ29.at (ga_8 k) rfl).trans ((fun k => (hQ5.at (ga_8 k) rfl).trans (hu2 k)) k)) k)) k)) k)) k)) k) (Or.inl (by decide))) k]; exact dm0 k a b, Or.inr ⟨by omega, by rw [(mUp_no e243 e237 (Or.inl (by decide))), (mUp_no e243 e233 (Or.inl (by decide)))]; exact c_roadsn (s1 := v114) xp0 (by omega) (by omega) (by omega) (by omega) (by omega)⟩, (TXP_sm (Sm.up e243 g_7_2 rfl) pr219), (TCP_sm (Sm.up e243 g_7_2 rfl) pr220), (OCe_sm (Sm.up e243 g_7_2 rfl) (OCe_sm (Sm.fr hQ209 rfl) (OCe_sm (Sm.fr hQ101 rfl) (OCe_sm (Sm.fr hQ77 rfl) (OCe_sm (Sm.fr hQ53 rfl) (OCe_sm (Sm.fr hQ29 rfl) (OCe_sm (Sm.fr hQ5 rfl) hOe)))))))⟩)
            · intro h245
              refine wk_c1 r156_112 (wk_goto r156_113 ?_)
              subst hQ; exact wk_zret r156_117 (by decide) (⟨rfl, _, rfl, hP241, hF242, by omega, by omega, by have := (mUp_no e243 e225 (Or.inl (by decide))); omega, by have := (mUp_no e243 e225 (Or.inl (by decide))); omega, by have := (mUp_no e243 e229 (Or.inl (by decide))); omega, by have := (mUp_no e243 e229 (Or.inl (by decide))); have := (mUp_no e243 e225 (Or.inl (by decide))); omega, by have := (mUp_no e243 e233 (Or.inl (by decide))); omega, by have := (mUp_no e243 e237 (Or.inl (by decide))); omega, by have := (mUp_at e243); omega, by have := (mUp_no e243 ((hQ209.at g_7_3 rfl).trans ((hQ101.at g_7_3 rfl).trans ((hQ77.at g_7_3 rfl).trans ((hQ53.at g_7_3 rfl).trans ((hQ29.at g_7_3 rfl).trans ((hQ5.at g_7_3 rfl).trans ex7_3)))))) (Or.inr (by decide))); omega, by have := (mUp_no e243 ((hQ209.at g_7_5 rfl).trans ((hQ101.at g_7_5 rfl).trans ((hQ77.at g_7_5 rfl).trans ((hQ53.at g_7_5 rfl).trans ((hQ29.at g_7_5 rfl).trans ((hQ5.at g_7_5 rfl).trans ex7_5)))))) (Or.inr (by decide))); omega, by have := (mUp_no e243 ((hQ209.at g_7_6 rfl).trans ((hQ101.at g_7_6 rfl).trans ((hQ77.at g_7_6 rfl).trans ((hQ53.at g_7_6 rfl).trans ((hQ29.at g_7_6 rfl).trans ((hQ5.at g_7_6 rfl).trans ex7_6)))))) (Or.inr (by decide))); omega, by have := (mUp_no e243 ((hQ209.at g_7_4 rfl).trans ((hQ101.at g_7_4 rfl).trans ((hQ77.at g_7_4 rfl).trans ((hQ53.at g_7_4 rfl).trans ((hQ29.at g_7_4 rfl).trans ((hQ5.at g_7_4 rfl).trans ex7_4)))))) (Or.inr (by decide))); omega, by have := (mUp_no e243 e233 (Or.inl (by decide))); omega, by have := (mUp_no e243 e233 (Or.inl (by decide))); omega, by have := (mUp_no e243 e237 (Or.inl (by decide))); omega, by have := (mUp_no e243 e237 (Or.inl (by decide))); omega, fun k a b => by rw [(fun k => mUp_no e243 ((fun k => (hQ209.at (ga_8 k) rfl).trans ((fun k => (hQ101.at (ga_8 k) rfl).trans ((fun k => (hQ77.at (ga_8 k) rfl).trans ((fun k => (hQ53.at (ga_8 k) rfl).trans ((fun k => (hQ29.at (ga_8 k) rfl).trans ((fun k => (hQ5.at (ga_8 k) rfl).trans (hu2 k)) k)) k)) k)) k)) k)) k) (Or.inl (by decide))) k]; exact dm0 k a b, Or.inl ⟨by omega, F, by rw [(mUp_no e243 e225 (Or.inl (by decide))), (mUp_at e243), (mUp_no e243 ((hQ209.at g_7_3 rfl).trans ((hQ101.at g_7_3 rfl).trans ((hQ77.at g_7_3 rfl).trans ((hQ53.at g_7_3 rfl).trans ((hQ29.at g_7_3 rfl).trans ((hQ5.at g_7_3 rfl).trans ex7_3)))))) (Or.inr (by decide))), (mUp_no e243 ((hQ209.at g_7_4 rfl).trans ((hQ101.at g_7_4 rfl).trans ((hQ77.at g_7_4 rfl).trans ((hQ53.at g_7_4 rfl).trans ((hQ29.at g_7_4 rfl).trans ((hQ5.at g_7_4 rfl).trans ex7_4)))))) (Or.inr (by decide))), (mUp_no e243 ((hQ209.at g_7_5 rfl).trans ((hQ101.at g_7_5 rfl).trans ((hQ77.at g_7_5 rfl).trans ((hQ53.at g_7_5 rfl).trans ((hQ29.at g_7_5 rfl).trans ((hQ5.at g_7_5 rfl).trans ex7_5)))))) (Or.inr (by decide))), (mUp_no e243 ((hQ209.at g_7_6 rfl).trans ((hQ101.at g_7_6 rfl).trans ((hQ77.at g_7_6 rfl).trans ((hQ53.at g_7_6 rfl).trans ((hQ29.at g_7_6 rfl).trans ((hQ5.at g_7_6 rfl).trans ex7_6)))))) (Or.inr (by decide)))]; exact I_c (c_roads (s1 := v114) (s2 := v224) (ro2 := v221) xp0 (by omega) (by omega) (by omega) (by omega) (by omega)) (by omega) rfl rfl (by omega) (by omega) (by omega) (by omega) (nr_eq (fun k _ _ => (fun k => mUp_no e243 ((fun k => (hQ209.at (ga_8 k) rfl).trans ((fun k => (hQ101.at (ga_8 k) rfl).trans ((fun k => (hQ77.at (ga_8 k) rfl).trans ((fun k => (hQ53.at (ga_8 k) rfl).trans ((fun k => (hQ29.at (ga_8 k) rfl).trans ((fun k => (hQ5.at (ga_8 k) rfl).trans (hu2 k)) k)) k)) k)) k)) k)) k) (Or.inl (by decide))) k) (by omega) rfl), by rw [((CLe_sm (Sm.up e243 g_7_2 rfl) (CLe_sm (Sm.fr hQ209 rfl) (CLe_sm (Sm.fr hQ101 rfl) (CLe_sm (Sm.fr hQ77 rfl) (CLe_sm (Sm.fr hQ53 rfl) (CLe_sm (Sm.fr hQ29 rfl) (CLe_sm (Sm.fr hQ5 rfl) hCe)))))))).2, (mUp_no e243 e225 (Or.inl (by decide)))]; exact ⟨xp3, by omega⟩⟩, (TXP_sm (Sm.up e243 g_7_2 rfl) pr219), (TCP_sm (Sm.up e243 g_7_2 rfl) pr220), (OCe_sm (Sm.up e243 g_7_2 rfl) (OCe_sm (Sm.fr hQ209 rfl) (OCe_sm (Sm.fr hQ101 rfl) (OCe_sm (Sm.fr hQ77 rfl) (OCe_sm (Sm.fr hQ53 rfl) (OCe_sm (Sm.fr hQ29 rfl) (OCe_sm (Sm.fr hQ5 rfl) hOe)))))))⟩)
        · intro h246
          replace h83 := h83 (z1_of h88 h89 h246)
          refine wk_al0 r156_69 (wk_getfr r156_70 fd_6_1 (br_6_1 hP76) (wk_c1 r156_73 (wk_putfz81 r156_74 fd_7_6 (by decide) (wk_nw g_7_6 rfl hP76 hF78 (uf_7_6 (by decide)) ?_))))
          intro M247 hP248 hF249 e250
          refine wk_c1 r156_77 ?_
          subst hQ; exact wk_zret r156_78 (by decide) (⟨rfl, _, rfl, hP248, hF249, by omega, by omega, by have := (mUp_no e250 e91 (Or.inl (by decide))); omega, by have := (mUp_no e250 e91 (Or.inl (by decide))); omega, by have := (mUp_no e250 e95 (Or.inl (by decide))); omega, by have := (mUp_no e250 e95 (Or.inl (by decide))); have := (mUp_no e250 e91 (Or.inl (by decide))); omega, by have := (mUp_no e250 ((hQ77.at g_6_4 rfl).trans ((hQ53.at g_6_4 rfl).trans ((hQ29.at g_6_4 rfl).trans ((hQ5.at g_6_4 rfl).trans ex6_4)))) (Or.inl (by decide))); omega, by have := (mUp_no e250 ((hQ77.at g_6_5 rfl).trans ((hQ53.at g_6_5 rfl).trans ((hQ29.at g_6_5 rfl).trans ((hQ5.at g_6_5 rfl).trans ex6_5)))) (Or.inl (by decide))); omega, by have := (mUp_no e250 ((hQ77.at g_7_2 rfl).trans ((hQ53.at g_7_2 rfl).trans ((hQ29.at g_7_2 rfl).trans ((hQ5.at g_7_2 rfl).trans ex7_2)))) (Or.inr (by decide))); omega, by have := (mUp_no e250 ((hQ77.at g_7_3 rfl).trans ((hQ53.at g_7_3 rfl).trans ((hQ29.at g_7_3 rfl).trans ((hQ5.at g_7_3 rfl).trans ex7_3)))) (Or.inr (by decide))); omega, by have := (mUp_no e250 ((hQ77.at g_7_5 rfl).trans ((hQ53.at g_7_5 rfl).trans ((hQ29.at g_7_5 rfl).trans ((hQ5.at g_7_5 rfl).trans ex7_5)))) (Or.inr (by decide))); omega, by have := (mUp_at e250); omega, by have := (mUp_no e250 ((hQ77.at g_7_4 rfl).trans ((hQ53.at g_7_4 rfl).trans ((hQ29.at g_7_4 rfl).trans ((hQ5.at g_7_4 rfl).trans ex7_4)))) (Or.inr (by decide))); omega, by have := (mUp_no e250 ((hQ77.at g_6_4 rfl).trans ((hQ53.at g_6_4 rfl).trans ((hQ29.at g_6_4 rfl).trans ((hQ5.at g_6_4 rfl).trans ex6_4)))) (Or.inl (by decide))); omega, by have := (mUp_no e250 ((hQ77.at g_6_4 rfl).trans ((hQ53.at g_6_4 rfl).trans ((hQ29.at g_6_4 rfl).trans ((hQ5.at g_6_4 rfl).trans ex6_4)))) (Or.inl (by decide))); omega, by have := (mUp_no e250 ((hQ77.at g_6_5 rfl).trans ((hQ53.at g_6_5 rfl).trans ((hQ29.at g_6_5 rfl).trans ((hQ5.at g_6_5 rfl).trans ex6_5)))) (Or.inl (by decide))); omega, by have := (mUp_no e250 ((hQ77.at g_6_5 rfl).trans ((hQ53.at g_6_5 rfl).trans ((hQ29.at g_6_5 rfl).trans ((hQ5.at g_6_5 rfl).trans ex6_5)))) (Or.inl (by decide))); omega, fun k a b => by rw [(fun k => mUp_no e250 ((fun k => (hQ77.at (ga_8 k) rfl).trans ((fun k => (hQ53.at (ga_8 k) rfl).trans ((fun k => (hQ29.at (ga_8 k) rfl).trans ((fun k => (hQ5.at (ga_8 k) rfl).trans (hu2 k)) k)) k)) k)) k) (Or.inl (by decide))) k]; exact dm0 k a b, Or.inl ⟨by omega, F, by rw [(mUp_no e250 e91 (Or.inl (by decide))), (mUp_no e250 ((hQ77.at g_7_2 rfl).trans ((hQ53.at g_7_2 rfl).trans ((hQ29.at g_7_2 rfl).trans ((hQ5.at g_7_2 rfl).trans ex7_2)))) (Or.inr (by decide))), (mUp_no e250 ((hQ77.at g_7_3 rfl).trans ((hQ53.at g_7_3 rfl).trans ((hQ29.at g_7_3 rfl).trans ((hQ5.at g_7_3 rfl).trans ex7_3)))) (Or.inr (by decide))), (mUp_no e250 ((hQ77.at g_7_4 rfl).trans ((hQ53.at g_7_4 rfl).trans ((hQ29.at g_7_4 rfl).trans ((hQ5.at g_7_4 rfl).trans ex7_4)))) (Or.inr (by decide))), (mUp_no e250 ((hQ77.at g_7_5 rfl).trans ((hQ53.at g_7_5 rfl).trans ((hQ29.at g_7_5 rfl).trans ((hQ5.at g_7_5 rfl).trans ex7_5)))) (Or.inr (by decide))), (mUp_at e250)]; exact I_c (c_words (wo2 := 1) (s1 := v90) xp0 (by omega) (by omega) rfl) (by omega) rfl rfl (by omega) (by omega) (by omega) (by omega) (nr_eq (fun k _ _ => (fun k => mUp_no e250 ((fun k => (hQ77.at (ga_8 k) rfl).trans ((fun k => (hQ53.at (ga_8 k) rfl).trans ((fun k => (hQ29.at (ga_8 k) rfl).trans ((fun k => (hQ5.at (ga_8 k) rfl).trans (hu2 k)) k)) k)) k)) k) (Or.inl (by decide))) k) (by omega) rfl), by rw [((CLe_sm (Sm.up e250 g_7_6 rfl) (CLe_sm (Sm.fr hQ77 rfl) (CLe_sm (Sm.fr hQ53 rfl) (CLe_sm (Sm.fr hQ29 rfl) (CLe_sm (Sm.fr hQ5 rfl) hCe)))))).2, (mUp_no e250 e91 (Or.inl (by decide)))]; exact ⟨xp3, by omega⟩⟩, (TXP_sm (Sm.up e250 g_7_6 rfl) pr85), (TCP_sm (Sm.up e250 g_7_6 rfl) pr86), (OCe_sm (Sm.up e250 g_7_6 rfl) (OCe_sm (Sm.fr hQ77 rfl) (OCe_sm (Sm.fr hQ53 rfl) (OCe_sm (Sm.fr hQ29 rfl) (OCe_sm (Sm.fr hQ5 rfl) hOe)))))⟩)
      · intro h251
        replace h59 := h59 (z1_of h64 h65 h251)
        refine wk_al0 r156_37 (wk_c1 r156_38 (wk_cv2 r156_39 kc_6_158 rfl (n7158_6E _ M51 0 x9_1 v66 v70 x6_4 x6_5 x6_3 T (((0 : Int), (0 : Int), v66, (0 : Int))) ((([], []) : Og)) (([] : List Int)) (([] : List Int)) hP52 (by decide) (by decide) ((hQ53.at g_9_1 rfl).trans ((hQ29.at g_9_1 rfl).trans ((hQ5.at g_9_1 rfl).trans ex9_1))) (by first | with_reducible assumption | omega) (by first | with_reducible assumption | omega) e67 (by first | with_reducible assumption | omega) (by first | with_reducible assumption | omega) e71 (by first | with_reducible assumption | omega) (by first | with_reducible assumption | omega) ((hQ53.at g_6_4 rfl).trans ((hQ29.at g_6_4 rfl).trans ((hQ5.at g_6_4 rfl).trans ex6_4))) (by first | with_reducible assumption | omega) (by first | with_reducible assumption | omega) ((hQ53.at g_6_5 rfl).trans ((hQ29.at g_6_5 rfl).trans ((hQ5.at g_6_5 rfl).trans ex6_5))) (by first | with_reducible assumption | omega) (by first | with_reducible assumption | omega) ((hQ53.at g_6_3 rfl).trans ((hQ29.at g_6_3 rfl).trans ((hQ5.at g_6_3 rfl).trans ex6_3))) (by first | with_reducible assumption | omega) (by first | with_reducible assumption | omega) (by omega) (by omega) (by omega) (by omega) (RQ.rf _) (fix_n 1) (CLe_len (CLe_sm (Sm.fr hQ53 rfl) (CLe_sm (Sm.fr hQ29 rfl) (CLe_sm (Sm.fr hQ5 rfl) hCe))) (by omega)) pr61 pr62) (cqI ?_)))
        rintro v270 M252 ⟨hP253, hQ254, h271, h272, h256, h257, h258, h259, h260, h261, h262, h263, h264, h265, xh266, pr267, pr268, pr269⟩
        have hF255 : Fr fm_n7156_6 M0 M252 := hF54.tr hQ254 rfl
        have pr273 : OCe M252 M0 := OCe_tr pr269 (OCe_sm (Sm.fr hQ53 rfl) (OCe_sm (Sm.fr hQ29 rfl) (OCe_sm (Sm.fr hQ5 rfl) hOe)))
        obtain ⟨v274, e275⟩ : ∃ v, M252 9 3 = v := ⟨_, rfl⟩
        have h276 := (bf_9_3 hP253).1; rw [e275] at h276
        have h277 := (bf_9_3 hP253).2; rw [e275] at h277
        obtain ⟨v278, e279⟩ : ∃ v, M252 9 2 = v := ⟨_, rfl⟩
        have h280 := (bf_9_2 hP253).1; rw [e279] at h280
        have h281 := (bf_9_2 hP253).2; rw [e279] at h281
        obtain ⟨v282, e283⟩ : ∃ v, M252 6 4 = v := ⟨_, rfl⟩
        have h284 := (bf_6_4 hP253).1; rw [e283] at h284
        have h285 := (bf_6_4 hP253).2; rw [e283] at h285
        obtain ⟨v286, e287⟩ : ∃ v, M252 6 5 = v := ⟨_, rfl⟩
        have h288 := (bf_6_5 hP253).1; rw [e287] at h288
        have h289 := (bf_6_5 hP253).2; rw [e287] at h289
        refine wk_ifeq r156_42 ⟨by omega, by omega⟩ ?_ ?_
        · intro h290
          clear h262 h263 h264 h265
          refine wk_c1 r156_58 ?_
          subst hQ; exact wk_zret r156_59 (by decide) (⟨rfl, _, rfl, hP253, hF255, by omega, by omega, by have := e275; omega, by have := e275; omega, by have := e279; omega, by have := e279; have := e275; omega, by have := e283; omega, by have := e287; omega, by have := ((hQ254.at g_7_2 rfl).trans ((hQ53.at g_7_2 rfl).trans ((hQ29.at g_7_2 rfl).trans ((hQ5.at g_7_2 rfl).trans ex7_2)))); omega, by have := ((hQ254.at g_7_3 rfl).trans ((hQ53.at g_7_3 rfl).trans ((hQ29.at g_7_3 rfl).trans ((hQ5.at g_7_3 rfl).trans ex7_3)))); omega, by have := ((hQ254.at g_7_5 rfl).trans ((hQ53.at g_7_5 rfl).trans ((hQ29.at g_7_5 rfl).trans ((hQ5.at g_7_5 rfl).trans ex7_5)))); omega, by have := ((hQ254.at g_7_6 rfl).trans ((hQ53.at g_7_6 rfl).trans ((hQ29.at g_7_6 rfl).trans ((hQ5.at g_7_6 rfl).trans ex7_6)))); omega, by have := ((hQ254.at g_7_4 rfl).trans ((hQ53.at g_7_4 rfl).trans ((hQ29.at g_7_4 rfl).trans ((hQ5.at g_7_4 rfl).trans ex7_4)))); omega, by omega, by omega, by omega, by omega, fun k a b => by rw [(fun k => (hQ254.at (ga_8 k) rfl).trans ((fun k => (hQ53.at (ga_8 k) rfl).trans ((fun k => (hQ29.at (ga_8 k) rfl).trans ((fun k => (hQ5.at (ga_8 k) rfl).trans (hu2 k)) k)) k)) k)) k]; exact dm0 k a b, Or.inr ⟨by omega, by rw [e287, e283]; exact I_f (c_factn xp0 (by omega) (by omega) (or_r xh266 (by omega))) (by omega) (by omega)⟩, pr267, pr268, pr273⟩)
        · intro h291
          replace h262 := h262 (z1_of h271 h272 h291)
          replace h263 := h263 (z1_of h271 h272 h291)
          replace h264 := h264 (z1_of h271 h272 h291)
          replace h265 := h265 (z1_of h271 h272 h291)
          have r2 := or_l xh266 (by omega); rw [e275, ((CLe_sm (Sm.fr hQ53 rfl) (CLe_sm (Sm.fr hQ29 rfl) (CLe_sm (Sm.fr hQ5 rfl) hCe)))).2] at r2
          obtain ⟨Cx, ecx, hcf, hcl⟩ := CDF_of r2.1 rfl rfl rfl (by have := r2.2; omega) (by decide)
          have hln : ((CLm M252).length : Int) = (CLm M0).length + Cx.length := by rw [ecx, len2]
          have pr292 : CLe M252 (CLm M252) := ⟨pcE hP253, rfl⟩
          refine wk_al0 r156_45 (wk_c1 r156_46 (wk_c1 r156_47 (wk_cv3 r156_48 kc_6_172 rfl (n7172_6 _ M252 2 0 hP253 (by decide) (by decide) (by decide) (by decide) (by first | assumption | omega | (unfold stepok; omega))) (cqI ?_))))
          rintro v299 M293 ⟨hP294, hQ295, h300, h301, xh297, pr298⟩
          have hF296 : Fr fm_n7156_6 M0 M293 := hF255.tr hQ295 rfl
          have pr302 : OCe M293 M0 := OCe_tr pr298 pr273
          have pr303 : CLe M293 (CLm M252 ++ [2]) := xh297 _ pr292 (by omega)
          refine wk_ifeq r156_51 ⟨by omega, by omega⟩ ?_ ?_
          · intro h304
            exfalso
            omega
          · intro h305
            refine wk_c1 r156_54 (wk_goto r156_55 ?_)
            subst hQ; exact wk_zret r156_59 (by decide) (⟨rfl, _, rfl, hP294, hF296, by omega, by omega, by have := ((hQ295.at g_9_3 rfl).trans e275); omega, by have := ((hQ295.at g_9_3 rfl).trans e275); omega, by have := ((hQ295.at g_9_2 rfl).trans e279); omega, by have := ((hQ295.at g_9_2 rfl).trans e279); have := ((hQ295.at g_9_3 rfl).trans e275); omega, by have := ((hQ295.at g_6_4 rfl).trans e283); omega, by have := ((hQ295.at g_6_5 rfl).trans e287); omega, by have := ((hQ295.at g_7_2 rfl).trans ((hQ254.at g_7_2 rfl).trans ((hQ53.at g_7_2 rfl).trans ((hQ29.at g_7_2 rfl).trans ((hQ5.at g_7_2 rfl).trans ex7_2))))); omega, by have := ((hQ295.at g_7_3 rfl).trans ((hQ254.at g_7_3 rfl).trans ((hQ53.at g_7_3 rfl).trans ((hQ29.at g_7_3 rfl).trans ((hQ5.at g_7_3 rfl).trans ex7_3))))); omega, by have := ((hQ295.at g_7_5 rfl).trans ((hQ254.at g_7_5 rfl).trans ((hQ53.at g_7_5 rfl).trans ((hQ29.at g_7_5 rfl).trans ((hQ5.at g_7_5 rfl).trans ex7_5))))); omega, by have := ((hQ295.at g_7_6 rfl).trans ((hQ254.at g_7_6 rfl).trans ((hQ53.at g_7_6 rfl).trans ((hQ29.at g_7_6 rfl).trans ((hQ5.at g_7_6 rfl).trans ex7_6))))); omega, by have := ((hQ295.at g_7_4 rfl).trans ((hQ254.at g_7_4 rfl).trans ((hQ53.at g_7_4 rfl).trans ((hQ29.at g_7_4 rfl).trans ((hQ5.at g_7_4 rfl).trans ex7_4))))); omega, by have := ((hQ295.at g_6_4 rfl).trans e283); omega, by have := ((hQ295.at g_6_4 rfl).trans e283); omega, by have := ((hQ295.at g_6_5 rfl).trans e287); omega, by have := ((hQ295.at g_6_5 rfl).trans e287); omega, fun k a b => by rw [(fun k => (hQ295.at (ga_8 k) rfl).trans ((fun k => (hQ254.at (ga_8 k) rfl).trans ((fun k => (hQ53.at (ga_8 k) rfl).trans ((fun k => (hQ29.at (ga_8 k) rfl).trans ((fun k => (hQ5.at (ga_8 k) rfl).trans (hu2 k)) k)) k)) k)) k)) k]; exact dm0 k a b, Or.inl ⟨by omega, (F ++ [v66]), by rw [((hQ295.at g_9_3 rfl).trans e275), ((hQ295.at g_7_2 rfl).trans ((hQ254.at g_7_2 rfl).trans ((hQ53.at g_7_2 rfl).trans ((hQ29.at g_7_2 rfl).trans ((hQ5.at g_7_2 rfl).trans ex7_2))))), ((hQ295.at g_7_3 rfl).trans ((hQ254.at g_7_3 rfl).trans ((hQ53.at g_7_3 rfl).trans ((hQ29.at g_7_3 rfl).trans ((hQ5.at g_7_3 rfl).trans ex7_3))))), ((hQ295.at g_7_4 rfl).trans ((hQ254.at g_7_4 rfl).trans ((hQ53.at g_7_4 rfl).trans ((hQ29.at g_7_4 rfl).trans ((hQ5.at g_7_4 rfl).trans ex7_4))))), ((hQ295.at g_7_5 rfl).trans ((hQ254.at g_7_5 rfl).trans ((hQ53.at g_7_5 rfl).trans ((hQ29.at g_7_5 rfl).trans ((hQ5.at g_7_5 rfl).trans ex7_5))))), ((hQ295.at g_7_6 rfl).trans ((hQ254.at g_7_6 rfl).trans ((hQ53.at g_7_6 rfl).trans ((hQ29.at g_7_6 rfl).trans ((hQ5.at g_7_6 rfl).trans ex7_6)))))]; exact I_c (c_fact xp0 (by omega) (by omega) (X_e (XN_r r2.1) (by have := r2.2; omega) (by decide) rfl) (nr_addM _ _ _ _).symm) (by omega) rfl rfl (by omega) (by omega) (by omega) (by omega) (nr_eq (fun k _ _ => (fun k => (hQ295.at (ga_8 k) rfl).trans ((fun k => (hQ254.at (ga_8 k) rfl).trans ((fun k => (hQ53.at (ga_8 k) rfl).trans ((fun k => (hQ29.at (ga_8 k) rfl).trans ((fun k => (hQ5.at (ga_8 k) rfl).trans (hu2 k)) k)) k)) k)) k)) k) (by omega) rfl), by rw [(pr303).2, ((hQ295.at g_9_3 rfl).trans e275)]; exact ⟨FLc_add xp3 hcf (by rw [ecx]), by rw [len1]; have := kw_2 (T := T) (n := x9_1) (s := x9_3) (by omega); omega⟩⟩, (TXP_sm (Sm.fr hQ295 rfl) pr267), (TCP_sm (Sm.fr hQ295 rfl) pr268), pr302⟩)
    · intro h306
      replace h35 := h35 (z1_of h40 h41 h306)
      refine wk_al0 r156_23 (wk_cv1 r156_24 kc_6_162 rfl (n7162_6 _ M27 x9_1 v42 v46 x6_4 x6_5 x6_3 x7_2 x7_3 x7_4 x7_5 x7_6 T i0 F hP28 ((hQ29.at g_9_1 rfl).trans ((hQ5.at g_9_1 rfl).trans ex9_1)) (by first | with_reducible assumption | omega) (by first | with_reducible assumption | omega) e43 (by first | with_reducible assumption | omega) (by first | with_reducible assumption | omega) e47 (by first | with_reducible assumption | omega) (by first | with_reducible assumption | omega) ((hQ29.at g_6_4 rfl).trans ((hQ5.at g_6_4 rfl).trans ex6_4)) (by first | with_reducible assumption | omega) (by first | with_reducible assumption | omega) ((hQ29.at g_6_5 rfl).trans ((hQ5.at g_6_5 rfl).trans ex6_5)) (by first | with_reducible assumption | omega) (by first | with_reducible assumption | omega) ((hQ29.at g_6_3 rfl).trans ((hQ5.at g_6_3 rfl).trans ex6_3)) (by first | with_reducible assumption | omega) (by first | with_reducible assumption | omega) ((hQ29.at g_7_2 rfl).trans ((hQ5.at g_7_2 rfl).trans ex7_2)) (by first | with_reducible assumption | omega) (by first | with_reducible assumption | omega) ((hQ29.at g_7_3 rfl).trans ((hQ5.at g_7_3 rfl).trans ex7_3)) (by first | with_reducible assumption | omega) (by first | with_reducible assumption | omega) ((hQ29.at g_7_4 rfl).trans ((hQ5.at g_7_4 rfl).trans ex7_4)) (by first | with_reducible assumption | omega) (by first | with_reducible assumption | omega) ((hQ29.at g_7_5 rfl).trans ((hQ5.at g_7_5 rfl).trans ex7_5)) (by first | with_reducible assumption | omega) (by first | with_reducible assumption | omega) ((hQ29.at g_7_6 rfl).trans ((hQ5.at g_7_6 rfl).trans ex7_6)) (by first | with_reducible assumption | omega) (by first | with_reducible assumption | omega) (by omega) (by omega) (by omega) (CX_m2 xp0 (by omega) (by omega) (nr_eq (fun k _ _ => (fun k => (hQ29.at (ga_8 k) rfl).trans ((fun k => (hQ5.at (ga_8 k) rfl).trans (hu2 k)) k)) k) (by omega) rfl)) pr37 pr38) (cqI ?_))
      rintro v324 M307 ⟨hP308, hQ309, h325, h326, h311, h312, h313, h314, h315, h316, h317, h318, h319, h320, xh321, pr322, pr323⟩
      have hF310 : Fr fm_n7156_6 M0 M307 := hF30.tr hQ309 rfl
      obtain ⟨v327, e328⟩ : ∃ v, M307 9 3 = v := ⟨_, rfl⟩
      have h329 := (bf_9_3 hP308).1; rw [e328] at h329
      have h330 := (bf_9_3 hP308).2; rw [e328] at h330
      obtain ⟨v331, e332⟩ : ∃ v, M307 9 2 = v := ⟨_, rfl⟩
      have h333 := (bf_9_2 hP308).1; rw [e332] at h333
      have h334 := (bf_9_2 hP308).2; rw [e332] at h334
      obtain ⟨v335, e336⟩ : ∃ v, M307 6 4 = v := ⟨_, rfl⟩
      have h337 := (bf_6_4 hP308).1; rw [e336] at h337
      have h338 := (bf_6_4 hP308).2; rw [e336] at h338
      obtain ⟨v339, e340⟩ : ∃ v, M307 6 5 = v := ⟨_, rfl⟩
      have h341 := (bf_6_5 hP308).1; rw [e340] at h341
      have h342 := (bf_6_5 hP308).2; rw [e340] at h342
      subst hQ; exact wk_zret r156_27 ⟨by omega, by omega⟩ (⟨rfl, _, rfl, hP308, hF310, by omega, by omega, by have := e328; omega, by have := e328; omega, by have := e332; omega, by have := e332; have := e328; omega, by have := e336; omega, by have := e340; omega, by have := ((hQ309.at g_7_2 rfl).trans ((hQ29.at g_7_2 rfl).trans ((hQ5.at g_7_2 rfl).trans ex7_2))); omega, by have := ((hQ309.at g_7_3 rfl).trans ((hQ29.at g_7_3 rfl).trans ((hQ5.at g_7_3 rfl).trans ex7_3))); omega, by have := (bf_7_5 hP308); omega, by have := ((hQ309.at g_7_6 rfl).trans ((hQ29.at g_7_6 rfl).trans ((hQ5.at g_7_6 rfl).trans ex7_6))); omega, by have := (bf_7_4 hP308); omega, by have := e336; omega, by have := e336; omega, by have := e340; omega, by have := e340; omega, fun k a b => by rw [(fun k => (hQ309.at (ga_8 k) rfl).trans ((fun k => (hQ29.at (ga_8 k) rfl).trans ((fun k => (hQ5.at (ga_8 k) rfl).trans (hu2 k)) k)) k)) k]; exact dm0 k a b, (xh321).elim (fun q => Or.inl ⟨q.1, F, q.2, by rw [((CLe_sm (Sm.fr hQ309 rfl) (CLe_sm (Sm.fr hQ29 rfl) (CLe_sm (Sm.fr hQ5 rfl) hCe)))).2, e328]; exact ⟨xp3, by omega⟩⟩) Or.inr, pr322, pr323, (OCe_sm (Sm.fr hQ309 rfl) (OCe_sm (Sm.fr hQ29 rfl) (OCe_sm (Sm.fr hQ5 rfl) hOe)))⟩)
  · intro h343
    replace h11 := h11 (z1_of h16 h17 h343)
    refine wk_al0 r156_9 (wk_cv1 r156_10 kc_6_164 rfl (n7164_6 _ M3 x9_1 v18 v22 x6_4 x6_5 x6_3 x7_2 x7_3 x7_4 x7_5 x7_6 T i0 F hP4 ((hQ5.at g_9_1 rfl).trans ex9_1) (by first | with_reducible assumption | omega) (by first | with_reducible assumption | omega) e19 (by first | with_reducible assumption | omega) (by first | with_reducible assumption | omega) e23 (by first | with_reducible assumption | omega) (by first | with_reducible assumption | omega) ((hQ5.at g_6_4 rfl).trans ex6_4) (by first | with_reducible assumption | omega) (by first | with_reducible assumption | omega) ((hQ5.at g_6_5 rfl).trans ex6_5) (by first | with_reducible assumption | omega) (by first | with_reducible assumption | omega) ((hQ5.at g_6_3 rfl).trans ex6_3) (by first | with_reducible assumption | omega) (by first | with_reducible assumption | omega) ((hQ5.at g_7_2 rfl).trans ex7_2) (by first | with_reducible assumption | omega) (by first | with_reducible assumption | omega) ((hQ5.at g_7_3 rfl).trans ex7_3) (by first | with_reducible assumption | omega) (by first | with_reducible assumption | omega) ((hQ5.at g_7_4 rfl).trans ex7_4) (by first | with_reducible assumption | omega) (by first | with_reducible assumption | omega) ((hQ5.at g_7_5 rfl).trans ex7_5) (by first | with_reducible assumption | omega) (by first | with_reducible assumption | omega) ((hQ5.at g_7_6 rfl).trans ex7_6) (by first | with_reducible assumption | omega) (by first | with_reducible assumption | omega) (by omega) (by omega) (by omega) (CX_m2 xp0 (by omega) (by omega) (nr_eq (fun k _ _ => (fun k => (hQ5.at (ga_8 k) rfl).trans (hu2 k)) k) (by omega) rfl)) (fun k a b => by rw [(fun k => (hQ5.at (ga_8 k) rfl).trans (hu2 k)) k]; exact dm0 k a b) pr13 pr14) (cqI ?_))
    rintro v362 M344 ⟨hP345, hQ346, h363, h364, h348, h349, h350, h351, h352, h353, h354, h355, h356, h357, xh358, xh359, pr360, pr361⟩
    have hF347 : Fr fm_n7156_6 M0 M344 := hF6.tr hQ346 rfl
    obtain ⟨v365, e366⟩ : ∃ v, M344 9 3 = v := ⟨_, rfl⟩
    have h367 := (bf_9_3 hP345).1; rw [e366] at h367
    have h368 := (bf_9_3 hP345).2; rw [e366] at h368
    obtain ⟨v369, e370⟩ : ∃ v, M344 9 2 = v := ⟨_, rfl⟩
    have h371 := (bf_9_2 hP345).1; rw [e370] at h371
    have h372 := (bf_9_2 hP345).2; rw [e370] at h372
    obtain ⟨v373, e374⟩ : ∃ v, M344 6 4 = v := ⟨_, rfl⟩
    have h375 := (bf_6_4 hP345).1; rw [e374] at h375
    have h376 := (bf_6_4 hP345).2; rw [e374] at h376
    obtain ⟨v377, e378⟩ : ∃ v, M344 6 5 = v := ⟨_, rfl⟩
    have h379 := (bf_6_5 hP345).1; rw [e378] at h379
    have h380 := (bf_6_5 hP345).2; rw [e378] at h380
    subst hQ; exact wk_zret r156_13 ⟨by omega, by omega⟩ (⟨rfl, _, rfl, hP345, hF347, by omega, by omega, by have := e366; omega, by have := e366; omega, by have := e370; omega, by have := e370; have := e366; omega, by have := e374; omega, by have := e378; omega, by have := ((hQ346.at g_7_2 rfl).trans ((hQ5.at g_7_2 rfl).trans ex7_2)); omega, by have := ((hQ346.at g_7_3 rfl).trans ((hQ5.at g_7_3 rfl).trans ex7_3)); omega, by have := ((hQ346.at g_7_5 rfl).trans ((hQ5.at g_7_5 rfl).trans ex7_5)); omega, by have := ((hQ346.at g_7_6 rfl).trans ((hQ5.at g_7_6 rfl).trans ex7_6)); omega, by have := ((hQ346.at g_7_4 rfl).trans ((hQ5.at g_7_4 rfl).trans ex7_4)); omega, by have := e374; omega, by have := e374; omega, by have := e378; omega, by have := e378; omega, xh358, (xh359).elim (fun q => Or.inl ⟨q.1, F, q.2, by rw [((CLe_sm (Sm.fr hQ346 rfl) (CLe_sm (Sm.fr hQ5 rfl) hCe))).2, e366]; exact ⟨xp3, by omega⟩⟩) Or.inr, pr360, pr361, (OCe_sm (Sm.fr hQ346 rfl) (OCe_sm (Sm.fr hQ5 rfl) hOe))⟩)
def fm_n7169_6 : Nat := 4362286076526592
