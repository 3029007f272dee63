/-! ===== written by program (wip/layer4) ===== -/
def fm_m7168_6v5 : Nat := 3941061990809600
/-- IslandHall$Parser.parenthesis -/
theorem m7168_6v5 {B : eB} (d : Nat) (M0 : Mm) (p1 : Int) (x9_1 : Int) (x9_3 : Int) (x9_2 : Int) (x6_4 : Int) (x6_5 : Int) (x6_3 : Int) (T : Int → Int) (c0 : Cg) (hP0 : Pw M0) (l1 : 5 ≤ p1) (u1 : p1 ≤ 5) (ex9_1 : M0 9 1 = x9_1) (lx9_1 : 0 ≤ x9_1) (ux9_1 : x9_1 ≤ 500) (ex9_3 : M0 9 3 = x9_3) (lx9_3 : 0 ≤ x9_3) (ux9_3 : x9_3 ≤ 500) (ex9_2 : M0 9 2 = x9_2) (lx9_2 : 0 ≤ x9_2) (ux9_2 : x9_2 ≤ 500) (ex6_4 : M0 6 4 = x6_4) (lx6_4 : 0 ≤ x6_4) (ux6_4 : x6_4 ≤ 6) (ex6_5 : M0 6 5 = x6_5) (lx6_5 : (-1) ≤ x6_5) (ux6_5 : x6_5 ≤ 500) (ex6_3 : M0 6 3 = x6_3) (lx6_3 : (-1) ≤ x6_3) (ux6_3 : x6_3 ≤ 7) (rp0 : 0 ≤ x9_1 + (-1) * x9_2) (rp1 : 0 ≤ x9_2 + (-1) * x9_3) (rp2 : 0 ≤ x9_1 + (-1) * x9_3) (xp0 : PX T x9_1 x6_3 c0 (p1 + 1) x9_3) (pp_TX : TXP T M0) (pp_TC : TCP T M0) : Ct B (d + 5) 168 [R 6, I p1] M0 (qI fun z M => Pw M ∧ Fr fm_m7168_6v5 M0 M ∧ 0 ≤ z ∧ z ≤ 0 ∧ 0 ≤ M 9 3 + (-1) * x9_3 ∧ 0 ≤ x9_1 + (-1) * (M 9 3) ∧ 0 ≤ x9_1 + (-1) * (M 9 2) ∧ 0 ≤ M 9 2 + (-1) * (M 9 3) ∧ 0 ≤ M 6 4 ∧ 0 ≤ M 6 5 + 1 ∧ (z = 1 → 0 ≤ M 6 4 + (-1) * x6_4) ∧ (z = 1 → 0 ≤ (-1) * (M 6 4) + x6_4) ∧ (z = 1 → 0 ≤ M 6 5 + (-1) * x6_5) ∧ (z = 1 → 0 ≤ (-1) * (M 6 5) + x6_5) ∧ ((z = 1 ∧ Rch T x9_1 x6_3 c0 (2, p1 + 1, M 9 3, 0)) ∨ (z = 0 ∧ Rch T x9_1 x6_3 c0 (3, 0, M 6 5, M 6 4))) ∧ (TXP T M) ∧ (TCP T M)) := by
  refine ct_of (d := d + 4) (k := 0) (L := [some (R 6), some (I p1)]) rfl rfl rfl ?_
  have hF0 := Fr.rf fm_m7168_6v5 M0
  generalize hQ : (qI fun z M => Pw M ∧ Fr fm_m7168_6v5 M0 M ∧ 0 ≤ z ∧ z ≤ 0 ∧ 0 ≤ M 9 3 + (-1) * x9_3 ∧ 0 ≤ x9_1 + (-1) * (M 9 3) ∧ 0 ≤ x9_1 + (-1) * (M 9 2) ∧ 0 ≤ M 9 2 + (-1) * (M 9 3) ∧ 0 ≤ M 6 4 ∧ 0 ≤ M 6 5 + 1 ∧ (z = 1 → 0 ≤ M 6 4 + (-1) * x6_4) ∧ (z = 1 → 0 ≤ (-1) * (M 6 4) + x6_4) ∧ (z = 1 → 0 ≤ M 6 5 + (-1) * x6_5) ∧ (z = 1 → 0 ≤ (-1) * (M 6 5) + x6_5) ∧ ((z = 1 ∧ Rch T x9_1 x6_3 c0 (2, p1 + 1, M 9 3, 0)) ∨ (z = 0 ∧ Rch T x9_1 x6_3 c0 (3, 0, M 6 5, M 6 4))) ∧ (TXP T M) ∧ (TCP T M)) = Q
  refine wk_al0 r168_0 (wk_c2 r168_1 (wk_cv2 r168_3 kc_6_174 rfl (m7174_6 _ M0 40 x9_1 x9_3 x9_2 x6_4 x6_5 T hP0 (by decide) (by decide) ex9_1 (by first | with_reducible assumption | omega) (by first | with_reducible assumption | omega) ex9_3 (by first | with_reducible assumption | omega) (by first | with_reducible assumption | omega) ex9_2 (by first | with_reducible assumption | omega) (by first | with_reducible assumption | omega) ex6_4 (by first | with_reducible assumption | omega) (by first | with_reducible assumption | omega) ex6_5 (by first | with_reducible assumption | omega) (by first | with_reducible assumption | omega) (by omega) (by omega) (by omega) pp_TX pp_TC) (cqI ?_)))
  rintro v18 M1 ⟨hP2, hQ3, h19, h20, h5, h6, h7, h8, h9, h10, h11, h12, h13, h14, xh15, pr16, pr17⟩
  have hF4 : Fr fm_m7168_6v5 M0 M1 := hF0.tr hQ3 rfl
  obtain ⟨v21, e22⟩ : ∃ v, M1 9 3 = v := ⟨_, rfl⟩
  have h23 := (bf_9_3 hP2).1; rw [e22] at h23
  have h24 := (bf_9_3 hP2).2; rw [e22] at h24
  obtain ⟨v25, e26⟩ : ∃ v, M1 9 2 = v := ⟨_, rfl⟩
  have h27 := (bf_9_2 hP2).1; rw [e26] at h27
  have h28 := (bf_9_2 hP2).2; rw [e26] at h28
  obtain ⟨v29, e30⟩ : ∃ v, M1 6 4 = v := ⟨_, rfl⟩
  have h31 := (bf_6_4 hP2).1; rw [e30] at h31
  have h32 := (bf_6_4 hP2).2; rw [e30] at h32
  obtain ⟨v33, e34⟩ : ∃ v, M1 6 5 = v := ⟨_, rfl⟩
  have h35 := (bf_6_5 hP2).1; rw [e34] at h35
  have h36 := (bf_6_5 hP2).2; rw [e34] at h36
  refine wk_ifeq r168_6 ⟨by omega, by omega⟩ ?_ ?_
  · intro h37
    refine wk_c1 r168_32 ?_
    subst hQ; exact wk_zret r168_33 (by decide) (⟨rfl, _, rfl, hP2, hF4, by omega, by omega, by have := e22; omega, by have := e22; omega, by have := e26; omega, by have := e26; have := e22; omega, by have := e30; omega, by have := e34; omega, by omega, by omega, by omega, by omega, Or.inr ⟨by omega, by rw [e34, e30]; exact PX_0 xp0 (by omega) (by omega) (by omega)⟩, pr16, pr17⟩)
  · intro h38
    refine wk_al0 r168_9 (wk_il1 r168_10 (wk_c1 r168_11 (wk_iadd r168_12 (wk_cv2 r168_13 kc_6_158 rfl (m7158_6v6 _ M1 (p1 + 1) x9_1 v21 v25 v29 v33 x6_3 T c0 hP2 (by first | with_reducible assumption | omega) (by first | with_reducible assumption | omega) ((hQ3.at g_9_1 rfl).trans ex9_1) (by first | with_reducible assumption | omega) (by first | with_reducible assumption | omega) e22 (by first | with_reducible assumption | omega) (by first | with_reducible assumption | omega) e26 (by first | with_reducible assumption | omega) (by first | with_reducible assumption | omega) e30 (by first | with_reducible assumption | omega) (by first | with_reducible assumption | omega) e34 (by first | with_reducible assumption | omega) (by first | with_reducible assumption | omega) ((hQ3.at g_6_3 rfl).trans ex6_3) (by first | with_reducible assumption | omega) (by first | with_reducible assumption | omega) (by omega) (by omega) (by omega) (PX_1 xp0 (by omega) (by omega)) pr16 pr17) (cqI ?_)))))
    rintro v56 M39 ⟨hP40, hQ41, h57, h58, h43, h44, h45, h46, h47, h48, h49, h50, h51, h52, xh53, pr54, pr55⟩
    have hF42 : Fr fm_m7168_6v5 M0 M39 := hF4.tr hQ41 rfl
    have e59 := ((hQ41.at g_9_3 rfl).trans e22)
    have e60 := ((hQ41.at g_9_2 rfl).trans e26)
    obtain ⟨v61, e62⟩ : ∃ v, M39 6 4 = v := ⟨_, rfl⟩
    have h63 := (bf_6_4 hP40).1; rw [e62] at h63
    have h64 := (bf_6_4 hP40).2; rw [e62] at h64
    obtain ⟨v65, e66⟩ : ∃ v, M39 6 5 = v := ⟨_, rfl⟩
    have h67 := (bf_6_5 hP40).1; rw [e66] at h67
    have h68 := (bf_6_5 hP40).2; rw [e66] at h68
    refine wk_ifeq r168_16 ⟨by omega, by omega⟩ ?_ ?_
    · intro h69
      refine wk_c1 r168_32 ?_
      subst hQ; exact wk_zret r168_33 (by decide) (⟨rfl, _, rfl, hP40, hF42, by omega, by omega, by have := ((hQ41.at g_9_3 rfl).trans e22); omega, by have := ((hQ41.at g_9_3 rfl).trans e22); omega, by have := ((hQ41.at g_9_2 rfl).trans e26); omega, by have := ((hQ41.at g_9_2 rfl).trans e26); have := ((hQ41.at g_9_3 rfl).trans e22); omega, by have := e62; omega, by have := e66; omega, by omega, by omega, by omega, by omega, Or.inr ⟨by omega, by rw [e66, e62]; exact F_k (or_r xh53 (by omega)) (by omega) (by omega)⟩, pr54, pr55⟩)
    · intro h70
      exfalso
      omega
def fm_m7171_6v3 : Nat := 4831838208
/-- IslandHall$Parser.row -/
theorem m7171_6v3 {B : eB} (d : Nat) (M0 : Mm) (p1 : Int) (p2 : Int) (hP0 : Pw M0) (l1 : 0 ≤ p1) (u1 : p1 ≤ 30) (l2 : (-1) ≤ p2) (u2 : p2 ≤ 4) : Ct B (d + 3) 171 [R 6, I p1, I p2] M0 (qI fun z M => Pw M ∧ Fr fm_m7171_6v3 M0 M ∧ 0 ≤ z ∧ z ≤ 1 ∧ ((z = 1 ∧ p2 ≠ -1) ∨ (z = 0 ∧ p2 = -1))) := by
  refine ct_of (d := d + 2) (k := 0) (L := [some (R 6), some (I p1), some (I p2)]) rfl rfl rfl ?_
  have hF0 := Fr.rf fm_m7171_6v3 M0
  generalize hQ : (qI fun z M => Pw M ∧ Fr fm_m7171_6v3 M0 M ∧ 0 ≤ z ∧ z ≤ 1 ∧ ((z = 1 ∧ p2 ≠ -1) ∨ (z = 0 ∧ p2 = -1))) = Q
  refine wk_il2 r171_0 (wk_c1 r171_1 ?_)
  refine wk_iceq r171_2 ⟨by omega, by omega⟩ (by decide) ?_ ?_
  · intro h1
    refine wk_c1 r171_20 ?_
    subst hQ; exact wk_zret r171_21 (by decide) (⟨rfl, _, rfl, hP0, hF0, by omega, by omega, by omega⟩)
  · intro h2
    refine wk_al0 r171_5 (wk_c1 r171_6 (wk_il1 r171_7 (wk_il2 r171_8 (wk_iadd r171_9 (wk_cv3 r171_10 kc_6_172 rfl (m7172_6 _ M0 0 (p1 + p2) hP0 (by decide) (by decide) (by first | with_reducible assumption | omega) (by first | with_reducible assumption | omega) (by first | assumption | omega | (unfold stepok; omega))) (cqI ?_))))))
    rintro v7 M3 ⟨hP4, hQ5, h8, h9⟩
    have hF6 : Fr fm_m7171_6v3 M0 M3 := hF0.tr hQ5 rfl
    refine wk_ifeq r171_13 ⟨by omega, by omega⟩ ?_ ?_
    · intro h10
      exfalso
      omega
    · intro h11
      refine wk_c1 r171_16 (wk_goto r171_17 ?_)
      subst hQ; exact wk_zret r171_21 (by decide) (⟨rfl, _, rfl, hP4, hF6, by omega, by omega, by omega⟩)
def fm_m7152_6v5 : Nat := 3941066822647808
/-- IslandHall$Parser.aboutSomeone -/
theorem m7152_6v5 {B : eB} (d : Nat) (M0 : Mm) (p1 : Int) (x9_1 : Int) (x9_3 : Int) (x9_2 : Int) (x6_4 : Int) (x6_5 : Int) (x6_3 : Int) (T : Int → Int) (c0 : Cg) (gk : Int) (hP0 : Pw M0) (l1 : 5 ≤ p1) (u1 : p1 ≤ 5) (ex9_1 : M0 9 1 = x9_1) (lx9_1 : 0 ≤ x9_1) (ux9_1 : x9_1 ≤ 500) (ex9_3 : M0 9 3 = x9_3) (lx9_3 : 0 ≤ x9_3) (ux9_3 : x9_3 ≤ 500) (ex9_2 : M0 9 2 = x9_2) (lx9_2 : 0 ≤ x9_2) (ux9_2 : x9_2 ≤ 500) (ex6_4 : M0 6 4 = x6_4) (lx6_4 : 0 ≤ x6_4) (ux6_4 : x6_4 ≤ 6) (ex6_5 : M0 6 5 = x6_5) (lx6_5 : (-1) ≤ x6_5) (ux6_5 : x6_5 ≤ 500) (ex6_3 : M0 6 3 = x6_3) (lx6_3 : (-1) ≤ x6_3) (ux6_3 : x6_3 ≤ 7) (rp0 : 0 ≤ x9_1 + (-1) * x9_2) (rp1 : 0 ≤ x9_2 + (-1) * x9_3) (rp2 : 0 ≤ x9_1 + (-1) * x9_3) (xp0 : Rch T x9_1 x6_3 c0 (1, p1 + 1, x9_3, gk)) (xp1 : nmI T x9_1 x9_3 = 1) (pp_TX : TXP T M0) (pp_TC : TCP T M0) : Ct B (d + 6) 152 [R 6, I p1] M0 (qI fun z M => Pw M ∧ Fr fm_m7152_6v5 M0 M ∧ 0 ≤ z ∧ z ≤ 1 ∧ 0 ≤ M 9 3 + (-1) * x9_3 ∧ 0 ≤ x9_1 + (-1) * (M 9 3) ∧ 0 ≤ x9_1 + (-1) * (M 9 2) ∧ 0 ≤ M 9 2 + (-1) * (M 9 3) ∧ 0 ≤ M 6 4 ∧ 0 ≤ M 6 5 + 1 ∧ (z = 1 → 0 ≤ M 6 4 + (-1) * x6_4) ∧ (z = 1 → 0 ≤ (-1) * (M 6 4) + x6_4) ∧ (z = 1 → 0 ≤ M 6 5 + (-1) * x6_5) ∧ (z = 1 → 0 ≤ (-1) * (M 6 5) + x6_5) ∧ ((z = 1 ∧ Rch T x9_1 x6_3 c0 (2, p1 + 1, M 9 3, 0)) ∨ (z = 0 ∧ Rch T x9_1 x6_3 c0 (3, 0, M 6 5, M 6 4))) ∧ (TXP T M) ∧ (TCP T M)) := by
  refine ct_of (d := d + 5) (k := 2) (L := [some (R 6), some (I p1), none, none]) rfl rfl rfl ?_
  have hF0 := Fr.rf fm_m7152_6v5 M0
  generalize hQ : (qI fun z M => Pw M ∧ Fr fm_m7152_6v5 M0 M ∧ 0 ≤ z ∧ z ≤ 1 ∧ 0 ≤ M 9 3 + (-1) * x9_3 ∧ 0 ≤ x9_1 + (-1) * (M 9 3) ∧ 0 ≤ x9_1 + (-1) * (M 9 2) ∧ 0 ≤ M 9 2 + (-1) * (M 9 3) ∧ 0 ≤ M 6 4 ∧ 0 ≤ M 6 5 + 1 ∧ (z = 1 → 0 ≤ M 6 4 + (-1) * x6_4) ∧ (z = 1 → 0 ≤ (-1) * (M 6 4) + x6_4) ∧ (z = 1 → 0 ≤ M 6 5 + (-1) * x6_5) ∧ (z = 1 → 0 ≤ (-1) * (M 6 5) + x6_5) ∧ ((z = 1 ∧ Rch T x9_1 x6_3 c0 (2, p1 + 1, M 9 3, 0)) ∨ (z = 0 ∧ Rch T x9_1 x6_3 c0 (3, 0, M 6 5, M 6 4))) ∧ (TXP T M) ∧ (TCP T M)) = Q
  refine wk_al0 r152_0 (wk_cv1 r152_1 kc_6_165 rfl (m7165_6 _ M0 x9_1 x9_3 x9_2 x6_4 x6_5 x6_3 T hP0 ex9_1 (by first | with_reducible assumption | omega) (by first | with_reducible assumption | omega) ex9_3 (by first | with_reducible assumption | omega) (by first | with_reducible assumption | omega) ex9_2 (by first | with_reducible assumption | omega) (by first | with_reducible assumption | omega) ex6_4 (by first | with_reducible assumption | omega) (by first | with_reducible assumption | omega) ex6_5 (by first | with_reducible assumption | omega) (by first | with_reducible assumption | omega) ex6_3 (by first | with_reducible assumption | omega) (by first | with_reducible assumption | omega) (by omega) (by omega) (by omega) pp_TX pp_TC) (cqI ?_))
  rintro v14 M1 ⟨hP2, hQ3, h15, h16, h5, h6, h7, h8, h9, h10, xh11, pr12, pr13⟩
  have hF4 : Fr fm_m7152_6v5 M0 M1 := hF0.tr hQ3 rfl
  obtain ⟨v17, e18⟩ : ∃ v, M1 9 3 = v := ⟨_, rfl⟩
  have h19 := (bf_9_3 hP2).1; rw [e18] at h19
  have h20 := (bf_9_3 hP2).2; rw [e18] at h20
  obtain ⟨v21, e22⟩ : ∃ v, M1 9 2 = v := ⟨_, rfl⟩
  have h23 := (bf_9_2 hP2).1; rw [e22] at h23
  have h24 := (bf_9_2 hP2).2; rw [e22] at h24
  obtain ⟨v25, e26⟩ : ∃ v, M1 6 4 = v := ⟨_, rfl⟩
  have h27 := (bf_6_4 hP2).1; rw [e26] at h27
  have h28 := (bf_6_4 hP2).2; rw [e26] at h28
  obtain ⟨v29, e30⟩ : ∃ v, M1 6 5 = v := ⟨_, rfl⟩
  have h31 := (bf_6_5 hP2).1; rw [e30] at h31
  have h32 := (bf_6_5 hP2).2; rw [e30] at h32
  refine wk_is2 r152_4 rfl (wk_il2 r152_5 (wk_c1 r152_6 ?_))
  refine wk_icne r152_7 ⟨by omega, by omega⟩ (by decide) ?_ ?_
  · intro h33
    have r1 : Rch T x9_1 x6_3 c0 (stN T x9_1 x6_3 (p1 + 1) v17) := N1 xp0 xp1 (by omega) (by omega)
    refine wk_al0 r152_12 (wk_c8 r152_13 (wk_cv2 r152_15 kc_6_175 rfl (m7175_6 _ M1 4111 x9_1 v17 v21 T hP2 (by decide) ((hQ3.at g_9_1 rfl).trans ex9_1) (by first | with_reducible assumption | omega) (by first | with_reducible assumption | omega) e18 (by first | with_reducible assumption | omega) (by first | with_reducible assumption | omega) e22 (by first | with_reducible assumption | omega) (by first | with_reducible assumption | omega) (by omega) (by omega) (by omega) (by first | assumption | omega | (unfold stepok; omega)) pr12 pr13) (cqI ?_)))
    rintro v46 M34 ⟨hP35, hQ36, h47, h48, h38, h39, h40, h41, h42, xh43, pr44, pr45⟩
    have hF37 : Fr fm_m7152_6v5 M0 M34 := hF4.tr hQ36 rfl
    obtain ⟨v49, e50⟩ : ∃ v, M34 9 3 = v := ⟨_, rfl⟩
    have h51 := (bf_9_3 hP35).1; rw [e50] at h51
    have h52 := (bf_9_3 hP35).2; rw [e50] at h52
    obtain ⟨v53, e54⟩ : ∃ v, M34 9 2 = v := ⟨_, rfl⟩
    have h55 := (bf_9_2 hP35).1; rw [e54] at h55
    have h56 := (bf_9_2 hP35).2; rw [e54] at h56
    rw [show wix 4111 = 15 from rfl] at xh43
    refine wk_ifeq r152_18 ⟨by omega, by omega⟩ ?_ ?_
    · intro h57
      obtain rfl : v17 = v49 := by omega
      obtain rfl : v21 = v53 := by omega
      refine wk_al0 r152_35 (wk_c8 r152_36 (wk_cv2 r152_38 kc_6_175 rfl (m7175_6 _ M34 4112 x9_1 v17 v21 T hP35 (by decide) ((hQ36.at g_9_1 rfl).trans ((hQ3.at g_9_1 rfl).trans ex9_1)) (by first | with_reducible assumption | omega) (by first | with_reducible assumption | omega) e50 (by first | with_reducible assumption | omega) (by first | with_reducible assumption | omega) e54 (by first | with_reducible assumption | omega) (by first | with_reducible assumption | omega) (by omega) (by omega) (by omega) (by first | assumption | omega | (unfold stepok; omega)) pr44 pr45) (cqI ?_)))
      rintro v70 M58 ⟨hP59, hQ60, h71, h72, h62, h63, h64, h65, h66, xh67, pr68, pr69⟩
      have hF61 : Fr fm_m7152_6v5 M0 M58 := hF37.tr hQ60 rfl
      obtain ⟨v73, e74⟩ : ∃ v, M58 9 3 = v := ⟨_, rfl⟩
      have h75 := (bf_9_3 hP59).1; rw [e74] at h75
      have h76 := (bf_9_3 hP59).2; rw [e74] at h76
      obtain ⟨v77, e78⟩ : ∃ v, M58 9 2 = v := ⟨_, rfl⟩
      have h79 := (bf_9_2 hP59).1; rw [e78] at h79
      have h80 := (bf_9_2 hP59).2; rw [e78] at h80
      rw [show wix 4112 = 16 from rfl] at xh67
      refine wk_ifeq r152_41 ⟨by omega, by omega⟩ ?_ ?_
      · intro h81
        obtain rfl : v17 = v73 := by omega
        obtain rfl : v21 = v77 := by omega
        refine wk_al0 r152_73 (wk_c8 r152_74 (wk_cv2 r152_76 kc_6_175 rfl (m7175_6 _ M58 4113 x9_1 v17 v21 T hP59 (by decide) ((hQ60.at g_9_1 rfl).trans ((hQ36.at g_9_1 rfl).trans ((hQ3.at g_9_1 rfl).trans ex9_1))) (by first | with_reducible assumption | omega) (by first | with_reducible assumption | omega) e74 (by first | with_reducible assumption | omega) (by first | with_reducible assumption | omega) e78 (by first | with_reducible assumption | omega) (by first | with_reducible assumption | omega) (by omega) (by omega) (by omega) (by first | assumption | omega | (unfold stepok; omega)) pr68 pr69) (cqI ?_)))
        rintro v94 M82 ⟨hP83, hQ84, h95, h96, h86, h87, h88, h89, h90, xh91, pr92, pr93⟩
        have hF85 : Fr fm_m7152_6v5 M0 M82 := hF61.tr hQ84 rfl
        obtain ⟨v97, e98⟩ : ∃ v, M82 9 3 = v := ⟨_, rfl⟩
        have h99 := (bf_9_3 hP83).1; rw [e98] at h99
        have h100 := (bf_9_3 hP83).2; rw [e98] at h100
        obtain ⟨v101, e102⟩ : ∃ v, M82 9 2 = v := ⟨_, rfl⟩
        have h103 := (bf_9_2 hP83).1; rw [e102] at h103
        have h104 := (bf_9_2 hP83).2; rw [e102] at h104
        rw [show wix 4113 = 17 from rfl] at xh91
        refine wk_ifne r152_79 ⟨by omega, by omega⟩ ?_ ?_
        · intro h105
          refine wk_al0 r152_88 (wk_il1 r152_89 (wk_cv2 r152_90 kc_6_168 rfl (m7168_6v5 _ M82 p1 x9_1 v97 v101 v25 v29 x6_3 T c0 hP83 (by first | with_reducible assumption | omega) (by first | with_reducible assumption | omega) ((hQ84.at g_9_1 rfl).trans ((hQ60.at g_9_1 rfl).trans ((hQ36.at g_9_1 rfl).trans ((hQ3.at g_9_1 rfl).trans ex9_1)))) (by first | with_reducible assumption | omega) (by first | with_reducible assumption | omega) e98 (by first | with_reducible assumption | omega) (by first | with_reducible assumption | omega) e102 (by first | with_reducible assumption | omega) (by first | with_reducible assumption | omega) ((hQ84.at g_6_4 rfl).trans ((hQ60.at g_6_4 rfl).trans ((hQ36.at g_6_4 rfl).trans e26))) (by first | with_reducible assumption | omega) (by first | with_reducible assumption | omega) ((hQ84.at g_6_5 rfl).trans ((hQ60.at g_6_5 rfl).trans ((hQ36.at g_6_5 rfl).trans e30))) (by first | with_reducible assumption | omega) (by first | with_reducible assumption | omega) ((hQ84.at g_6_3 rfl).trans ((hQ60.at g_6_3 rfl).trans ((hQ36.at g_6_3 rfl).trans ((hQ3.at g_6_3 rfl).trans ex6_3)))) (by first | with_reducible assumption | omega) (by first | with_reducible assumption | omega) (by omega) (by omega) (by omega) (N_s r1 (by omega) (by omega)) pr92 pr93) (cqI ?_)))
          rintro v123 M106 ⟨hP107, hQ108, h124, h125, h110, h111, h112, h113, h114, h115, h116, h117, h118, h119, xh120, pr121, pr122⟩
          have hF109 : Fr fm_m7152_6v5 M0 M106 := hF85.tr hQ108 rfl
          obtain ⟨v126, e127⟩ : ∃ v, M106 9 3 = v := ⟨_, rfl⟩
          have h128 := (bf_9_3 hP107).1; rw [e127] at h128
          have h129 := (bf_9_3 hP107).2; rw [e127] at h129
          obtain ⟨v130, e131⟩ : ∃ v, M106 9 2 = v := ⟨_, rfl⟩
          have h132 := (bf_9_2 hP107).1; rw [e131] at h132
          have h133 := (bf_9_2 hP107).2; rw [e131] at h133
          obtain ⟨v134, e135⟩ : ∃ v, M106 6 4 = v := ⟨_, rfl⟩
          have h136 := (bf_6_4 hP107).1; rw [e135] at h136
          have h137 := (bf_6_4 hP107).2; rw [e135] at h137
          obtain ⟨v138, e139⟩ : ∃ v, M106 6 5 = v := ⟨_, rfl⟩
          have h140 := (bf_6_5 hP107).1; rw [e139] at h140
          have h141 := (bf_6_5 hP107).2; rw [e139] at h141
          refine wk_ifne r152_93 ⟨by omega, by omega⟩ ?_ ?_
          · intro h142
            exfalso
            omega
          · intro h143
            refine wk_c1 r152_96 ?_
            subst hQ; exact wk_zret r152_97 (by decide) (⟨rfl, _, rfl, hP107, hF109, by omega, by omega, by have := e127; omega, by have := e127; omega, by have := e131; omega, by have := e131; have := e127; omega, by have := e135; omega, by have := e139; omega, by omega, by omega, by omega, by omega, Or.inr ⟨by omega, by rw [e139, e135]; exact F_k (or_r xh120 (by omega)) (by omega) (by omega)⟩, pr121, pr122⟩)
        · intro h144
          obtain rfl : v17 = v97 := by omega
          obtain rfl : v21 = v101 := by omega
          refine wk_al0 r152_82 (wk_c1 r152_83 (wk_cv2 r152_84 kc_6_159 rfl (m7159_6 _ M82 1 v17 hP83 (by decide) (by decide) e98 (by first | with_reducible assumption | omega) (by first | with_reducible assumption | omega)) (cqI ?_)))
          rintro v153 M145 ⟨hP146, hQ147, h154, h155, h149, h150, h151, h152⟩
          have hF148 : Fr fm_m7152_6v5 M0 M145 := hF85.tr hQ147 rfl
          obtain ⟨v156, e157⟩ : ∃ v, M145 6 4 = v := ⟨_, rfl⟩
          have h158 := (bf_6_4 hP146).1; rw [e157] at h158
          have h159 := (bf_6_4 hP146).2; rw [e157] at h159
          obtain ⟨v160, e161⟩ : ∃ v, M145 6 5 = v := ⟨_, rfl⟩
          have h162 := (bf_6_5 hP146).1; rw [e161] at h162
          have h163 := (bf_6_5 hP146).2; rw [e161] at h163
          subst hQ; exact wk_zret r152_87 ⟨by omega, by omega⟩ (⟨rfl, _, rfl, hP146, hF148, by omega, by omega, by have := ((hQ147.at g_9_3 rfl).trans e98); omega, by have := ((hQ147.at g_9_3 rfl).trans e98); omega, by have := ((hQ147.at g_9_2 rfl).trans e102); omega, by have := ((hQ147.at g_9_2 rfl).trans e102); have := ((hQ147.at g_9_3 rfl).trans e98); omega, by have := e157; omega, by have := e161; omega, by omega, by omega, by omega, by omega, Or.inr ⟨by omega, by rw [e161, e157]; exact N_n r1 (by omega) (by omega) (by omega) (by omega) (by omega)⟩, (TXP_sm (Sm.fr hQ147 rfl) pr92), (TCP_sm (Sm.fr hQ147 rfl) pr93)⟩)
      · intro h164
        refine wk_al0 r152_44 (wk_cv1 r152_45 kc_6_165 rfl (m7165_6 _ M58 x9_1 v73 v77 v25 v29 x6_3 T hP59 ((hQ60.at g_9_1 rfl).trans ((hQ36.at g_9_1 rfl).trans ((hQ3.at g_9_1 rfl).trans ex9_1))) (by first | with_reducible assumption | omega) (by first | with_reducible assumption | omega) e74 (by first | with_reducible assumption | omega) (by first | with_reducible assumption | omega) e78 (by first | with_reducible assumption | omega) (by first | with_reducible assumption | omega) ((hQ60.at g_6_4 rfl).trans ((hQ36.at g_6_4 rfl).trans e26)) (by first | with_reducible assumption | omega) (by first | with_reducible assumption | omega) ((hQ60.at g_6_5 rfl).trans ((hQ36.at g_6_5 rfl).trans e30)) (by first | with_reducible assumption | omega) (by first | with_reducible assumption | omega) ((hQ60.at g_6_3 rfl).trans ((hQ36.at g_6_3 rfl).trans ((hQ3.at g_6_3 rfl).trans ex6_3))) (by first | with_reducible assumption | omega) (by first | with_reducible assumption | omega) (by omega) (by omega) (by omega) pr68 pr69) (cqI ?_))
        rintro v178 M165 ⟨hP166, hQ167, h179, h180, h169, h170, h171, h172, h173, h174, xh175, pr176, pr177⟩
        have hF168 : Fr fm_m7152_6v5 M0 M165 := hF61.tr hQ167 rfl
        obtain ⟨v181, e182⟩ : ∃ v, M165 9 3 = v := ⟨_, rfl⟩
        have h183 := (bf_9_3 hP166).1; rw [e182] at h183
        have h184 := (bf_9_3 hP166).2; rw [e182] at h184
        obtain ⟨v185, e186⟩ : ∃ v, M165 9 2 = v := ⟨_, rfl⟩
        have h187 := (bf_9_2 hP166).1; rw [e186] at h187
        have h188 := (bf_9_2 hP166).2; rw [e186] at h188
        obtain ⟨v189, e190⟩ : ∃ v, M165 6 4 = v := ⟨_, rfl⟩
        have h191 := (bf_6_4 hP166).1; rw [e190] at h191
        have h192 := (bf_6_4 hP166).2; rw [e190] at h192
        obtain ⟨v193, e194⟩ : ∃ v, M165 6 5 = v := ⟨_, rfl⟩
        have h195 := (bf_6_5 hP166).1; rw [e194] at h195
        have h196 := (bf_6_5 hP166).2; rw [e194] at h196
        refine wk_is3 r152_48 rfl (wk_il3 r152_49 (wk_c1 r152_50 ?_))
        refine wk_iceq r152_51 ⟨by omega, by omega⟩ (by decide) ?_ ?_
        · intro h197
          refine wk_c1 r152_71 ?_
          subst hQ; exact wk_zret r152_72 (by decide) (⟨rfl, _, rfl, hP166, hF168, by omega, by omega, by have := e182; omega, by have := e182; omega, by have := e186; omega, by have := e186; have := e182; omega, by have := e190; omega, by have := e194; omega, by omega, by omega, by omega, by omega, Or.inr ⟨by omega, by rw [e194, e190]; exact N_an (v2 := v73) r1 (by omega) (by omega) (by omega) (by omega) (by omega)⟩, pr176, pr177⟩)
        · intro h198
          refine wk_al0 r152_54 (wk_c1 r152_55 (wk_il2 r152_56 (wk_c1 r152_57 (wk_ishlc r152_58 (by decide) pwl_3 (wk_il3 r152_59 (wk_iord2 3 8 r152_60 (by decide) ⟨by omega, by omega⟩ ⟨by omega, by omega, by omega⟩ (wk_cv3 r152_61 kc_6_172 rfl (m7172_6 _ M165 5 ((v14 * 8) + v178) hP166 (by decide) (by decide) (by first | with_reducible assumption | omega) (by first | with_reducible assumption | omega) (by first | assumption | omega | (unfold stepok; omega))) (cqI ?_))))))))
          rintro v203 M199 ⟨hP200, hQ201, h204, h205⟩
          have hF202 : Fr fm_m7152_6v5 M0 M199 := hF168.tr hQ201 rfl
          refine wk_ifeq r152_64 ⟨by omega, by omega⟩ ?_ ?_
          · intro h206
            exfalso
            omega
          · intro h207
            refine wk_c1 r152_67 (wk_goto r152_68 ?_)
            subst hQ; exact wk_zret r152_72 (by decide) (⟨rfl, _, rfl, hP200, hF202, by omega, by omega, by have := ((hQ201.at g_9_3 rfl).trans e182); omega, by have := ((hQ201.at g_9_3 rfl).trans e182); omega, by have := ((hQ201.at g_9_2 rfl).trans e186); omega, by have := ((hQ201.at g_9_2 rfl).trans e186); have := ((hQ201.at g_9_3 rfl).trans e182); omega, by have := ((hQ201.at g_6_4 rfl).trans e190); omega, by have := ((hQ201.at g_6_5 rfl).trans e194); omega, by have := ((hQ201.at g_6_4 rfl).trans e190); omega, by have := ((hQ201.at g_6_4 rfl).trans e190); omega, by have := ((hQ201.at g_6_5 rfl).trans e194); omega, by have := ((hQ201.at g_6_5 rfl).trans e194); omega, Or.inl ⟨by omega, by rw [((hQ201.at g_9_3 rfl).trans e182)]; exact N_a (v2 := v73) r1 (by omega) (by omega) (by omega) (by omega)⟩, (TXP_sm (Sm.fr hQ201 rfl) pr176), (TCP_sm (Sm.fr hQ201 rfl) pr177)⟩)
    · intro h208
      refine wk_al0 r152_21 (wk_c1 r152_22 (wk_il2 r152_23 (wk_c1 r152_24 (wk_imul r152_25 (wk_iadd r152_26 (wk_al0 r152_27 (wk_cv1 r152_28 kc_6_173 rfl (m7173_6 _ M34 x9_1 v49 v53 v25 v29 T hP35 ((hQ36.at g_9_1 rfl).trans ((hQ3.at g_9_1 rfl).trans ex9_1)) (by first | with_reducible assumption | omega) (by first | with_reducible assumption | omega) e50 (by first | with_reducible assumption | omega) (by first | with_reducible assumption | omega) e54 (by first | with_reducible assumption | omega) (by first | with_reducible assumption | omega) ((hQ36.at g_6_4 rfl).trans e26) (by first | with_reducible assumption | omega) (by first | with_reducible assumption | omega) ((hQ36.at g_6_5 rfl).trans e30) (by first | with_reducible assumption | omega) (by first | with_reducible assumption | omega) (by omega) (by omega) (by omega) pr44 pr45) (cqI ?_))))))))
      rintro v222 M209 ⟨hP210, hQ211, h223, h224, h213, h214, h215, h216, h217, h218, xh219, pr220, pr221⟩
      have hF212 : Fr fm_m7152_6v5 M0 M209 := hF37.tr hQ211 rfl
      obtain ⟨v225, e226⟩ : ∃ v, M209 9 3 = v := ⟨_, rfl⟩
      have h227 := (bf_9_3 hP210).1; rw [e226] at h227
      have h228 := (bf_9_3 hP210).2; rw [e226] at h228
      obtain ⟨v229, e230⟩ : ∃ v, M209 9 2 = v := ⟨_, rfl⟩
      have h231 := (bf_9_2 hP210).1; rw [e230] at h231
      have h232 := (bf_9_2 hP210).2; rw [e230] at h232
      obtain ⟨v233, e234⟩ : ∃ v, M209 6 4 = v := ⟨_, rfl⟩
      have h235 := (bf_6_4 hP210).1; rw [e234] at h235
      have h236 := (bf_6_4 hP210).2; rw [e234] at h236
      obtain ⟨v237, e238⟩ : ∃ v, M209 6 5 = v := ⟨_, rfl⟩
      have h239 := (bf_6_5 hP210).1; rw [e238] at h239
      have h240 := (bf_6_5 hP210).2; rw [e238] at h240
      refine wk_cv3 r152_31 kc_6_171 rfl (m7171_6v3 _ M209 (0 + (v14 * 5)) v222 hP210 (by first | with_reducible assumption | omega) (by first | with_reducible assumption | omega) (by first | with_reducible assumption | omega) (by first | with_reducible assumption | omega)) (cqI ?_)
      rintro v246 M241 ⟨hP242, hQ243, h247, h248, xh245⟩
      have hF244 : Fr fm_m7152_6v5 M0 M241 := hF212.tr hQ243 rfl
      subst hQ; exact wk_zret r152_34 ⟨by omega, by omega⟩ (⟨rfl, _, rfl, hP242, hF244, by omega, by omega, by have := ((hQ243.at g_9_3 rfl).trans e226); omega, by have := ((hQ243.at g_9_3 rfl).trans e226); omega, by have := ((hQ243.at g_9_2 rfl).trans e230); omega, by have := ((hQ243.at g_9_2 rfl).trans e230); have := ((hQ243.at g_9_3 rfl).trans e226); omega, by have := ((hQ243.at g_6_4 rfl).trans e234); omega, by have := ((hQ243.at g_6_5 rfl).trans e238); omega, by have := ((hQ243.at g_6_4 rfl).trans e234); omega, by have := ((hQ243.at g_6_4 rfl).trans e234); omega, by have := ((hQ243.at g_6_5 rfl).trans e238); omega, by have := ((hQ243.at g_6_5 rfl).trans e238); omega, by rcases (show v246 = 1 ∨ v246 = 0 by omega) with q9 | q9; (exact Or.inl ⟨q9, by rw [((hQ243.at g_9_3 rfl).trans e226)]; exact N_i (v2 := v49) r1 (by omega) (by omega) (by omega) (by omega)⟩); (exact Or.inr ⟨q9, by rw [((hQ243.at g_6_5 rfl).trans e238), ((hQ243.at g_6_4 rfl).trans e234)]; exact N_in (v2 := v49) r1 (by omega) (by omega) (by omega) (by omega) (by omega)⟩), (TXP_sm (Sm.fr hQ243 rfl) pr220), (TCP_sm (Sm.fr hQ243 rfl) pr221)⟩)
  · intro h249
    refine wk_c1 r152_10 ?_
    subst hQ; exact wk_zret r152_11 (by decide) (⟨rfl, _, rfl, hP2, hF4, by omega, by omega, by have := e18; omega, by have := e18; omega, by have := e22; omega, by have := e22; have := e18; omega, by have := e26; omega, by have := e30; omega, by omega, by omega, by omega, by omega, Or.inr ⟨by omega, by rw [e30, e26]; exact N0 xp0 xp1 (by omega) (by omega) (by omega)⟩, pr12, pr13⟩)
def fm_m7153_6v5 : Nat := 3941068970131456
/-- IslandHall$Parser.atom -/
theorem m7153_6v5 {B : eB} (d : Nat) (M0 : Mm) (p1 : Int) (x9_1 : Int) (x9_3 : Int) (x9_2 : Int) (x6_4 : Int) (x6_5 : Int) (x6_3 : Int) (T : Int → Int) (c0 : Cg) (gk : Int) (hP0 : Pw M0) (l1 : 5 ≤ p1) (u1 : p1 ≤ 5) (ex9_1 : M0 9 1 = x9_1) (lx9_1 : 0 ≤ x9_1) (ux9_1 : x9_1 ≤ 500) (ex9_3 : M0 9 3 = x9_3) (lx9_3 : 0 ≤ x9_3) (ux9_3 : x9_3 ≤ 500) (ex9_2 : M0 9 2 = x9_2) (lx9_2 : 0 ≤ x9_2) (ux9_2 : x9_2 ≤ 500) (ex6_4 : M0 6 4 = x6_4) (lx6_4 : 0 ≤ x6_4) (ux6_4 : x6_4 ≤ 6) (ex6_5 : M0 6 5 = x6_5) (lx6_5 : (-1) ≤ x6_5) (ux6_5 : x6_5 ≤ 500) (ex6_3 : M0 6 3 = x6_3) (lx6_3 : (-1) ≤ x6_3) (ux6_3 : x6_3 ≤ 7) (rp0 : 0 ≤ x9_1 + (-1) * x9_2) (rp1 : 0 ≤ x9_2 + (-1) * x9_3) (rp2 : 0 ≤ x9_1 + (-1) * x9_3) (xp0 : Rch T x9_1 x6_3 c0 (1, p1 + 1, x9_3, gk)) (xp1 : kw T x9_1 x9_3 ≠ 14) (xp2 : sgI T x9_1 x9_3 40 ≠ 1) (pp_TX : TXP T M0) (pp_TC : TCP T M0) : Ct B (d + 7) 153 [R 6, I p1] M0 (qI fun z M => Pw M ∧ Fr fm_m7153_6v5 M0 M ∧ 0 ≤ z ∧ z ≤ 1 ∧ 0 ≤ M 9 3 + (-1) * x9_3 ∧ 0 ≤ x9_1 + (-1) * (M 9 3) ∧ 0 ≤ x9_1 + (-1) * (M 9 2) ∧ 0 ≤ M 9 2 + (-1) * (M 9 3) ∧ 0 ≤ M 6 4 ∧ 0 ≤ M 6 5 + 1 ∧ (z = 1 → 0 ≤ M 6 4 + (-1) * x6_4) ∧ (z = 1 → 0 ≤ (-1) * (M 6 4) + x6_4) ∧ (z = 1 → 0 ≤ M 6 5 + (-1) * x6_5) ∧ (z = 1 → 0 ≤ (-1) * (M 6 5) + x6_5) ∧ ((z = 1 ∧ Rch T x9_1 x6_3 c0 (2, p1 + 1, M 9 3, 0)) ∨ (z = 0 ∧ Rch T x9_1 x6_3 c0 (3, 0, M 6 5, M 6 4))) ∧ (TXP T M) ∧ (TCP T M)) := by
  refine ct_of (d := d + 6) (k := 0) (L := [some (R 6), some (I p1)]) rfl rfl rfl ?_
  have hF0 := Fr.rf fm_m7153_6v5 M0
  generalize hQ : (qI fun z M => Pw M ∧ Fr fm_m7153_6v5 M0 M ∧ 0 ≤ z ∧ z ≤ 1 ∧ 0 ≤ M 9 3 + (-1) * x9_3 ∧ 0 ≤ x9_1 + (-1) * (M 9 3) ∧ 0 ≤ x9_1 + (-1) * (M 9 2) ∧ 0 ≤ M 9 2 + (-1) * (M 9 3) ∧ 0 ≤ M 6 4 ∧ 0 ≤ M 6 5 + 1 ∧ (z = 1 → 0 ≤ M 6 4 + (-1) * x6_4) ∧ (z = 1 → 0 ≤ (-1) * (M 6 4) + x6_4) ∧ (z = 1 → 0 ≤ M 6 5 + (-1) * x6_5) ∧ (z = 1 → 0 ≤ (-1) * (M 6 5) + x6_5) ∧ ((z = 1 ∧ Rch T x9_1 x6_3 c0 (2, p1 + 1, M 9 3, 0)) ∨ (z = 0 ∧ Rch T x9_1 x6_3 c0 (3, 0, M 6 5, M 6 4))) ∧ (TXP T M) ∧ (TCP T M)) = Q
  refine wk_al0 r153_0 (wk_getfr r153_1 fd_6_0 (br_6_0 hP0) (wk_cv1 r153_4 kc_9_237 rfl (m7237_9 _ M0 x9_1 x9_3 T hP0 ex9_1 (by first | with_reducible assumption | omega) (by first | with_reducible assumption | omega) ex9_3 (by first | with_reducible assumption | omega) (by first | with_reducible assumption | omega) pp_TX pp_TC) (cqI ?_)))
  rintro v6 M1 ⟨hP2, hQ3, h7, h8, xh5⟩
  obtain rfl := Fr.same hQ3
  refine wk_ifeq r153_7 ⟨by omega, by omega⟩ ?_ ?_
  · intro h9
    refine wk_al0 r153_16 (wk_c8 r153_17 (wk_cv2 r153_19 kc_6_175 rfl (m7175_6 _ M0 4114 x9_1 x9_3 x9_2 T hP0 (by decide) ex9_1 (by first | with_reducible assumption | omega) (by first | with_reducible assumption | omega) ex9_3 (by first | with_reducible assumption | omega) (by first | with_reducible assumption | omega) ex9_2 (by first | with_reducible assumption | omega) (by first | with_reducible assumption | omega) (by omega) (by omega) (by omega) (by first | assumption | omega | (unfold stepok; omega)) pp_TX pp_TC) (cqI ?_)))
    rintro v22 M10 ⟨hP11, hQ12, h23, h24, h14, h15, h16, h17, h18, xh19, pr20, pr21⟩
    have hF13 : Fr fm_m7153_6v5 M0 M10 := hF0.tr hQ12 rfl
    obtain ⟨v25, e26⟩ : ∃ v, M10 9 3 = v := ⟨_, rfl⟩
    have h27 := (bf_9_3 hP11).1; rw [e26] at h27
    have h28 := (bf_9_3 hP11).2; rw [e26] at h28
    obtain ⟨v29, e30⟩ : ∃ v, M10 9 2 = v := ⟨_, rfl⟩
    have h31 := (bf_9_2 hP11).1; rw [e30] at h31
    have h32 := (bf_9_2 hP11).2; rw [e30] at h32
    rw [show wix 4114 = 18 from rfl] at xh19
    refine wk_ifeq r153_22 ⟨by omega, by omega⟩ ?_ ?_
    · intro h33
      obtain rfl : x9_3 = v25 := by omega
      obtain rfl : x9_2 = v29 := by omega
      refine wk_al0 r153_38 (wk_c8 r153_39 (wk_cv2 r153_41 kc_6_175 rfl (m7175_6 _ M10 4115 x9_1 x9_3 x9_2 T hP11 (by decide) ((hQ12.at g_9_1 rfl).trans ex9_1) (by first | with_reducible assumption | omega) (by first | with_reducible assumption | omega) e26 (by first | with_reducible assumption | omega) (by first | with_reducible assumption | omega) e30 (by first | with_reducible assumption | omega) (by first | with_reducible assumption | omega) (by omega) (by omega) (by omega) (by first | assumption | omega | (unfold stepok; omega)) pr20 pr21) (cqI ?_)))
      rintro v46 M34 ⟨hP35, hQ36, h47, h48, h38, h39, h40, h41, h42, xh43, pr44, pr45⟩
      have hF37 : Fr fm_m7153_6v5 M0 M34 := hF13.tr hQ36 rfl
      obtain ⟨v49, e50⟩ : ∃ v, M34 9 3 = v := ⟨_, rfl⟩
      have h51 := (bf_9_3 hP35).1; rw [e50] at h51
      have h52 := (bf_9_3 hP35).2; rw [e50] at h52
      obtain ⟨v53, e54⟩ : ∃ v, M34 9 2 = v := ⟨_, rfl⟩
      have h55 := (bf_9_2 hP35).1; rw [e54] at h55
      have h56 := (bf_9_2 hP35).2; rw [e54] at h56
      rw [show wix 4115 = 8 from rfl] at xh43
      refine wk_ifeq r153_44 ⟨by omega, by omega⟩ ?_ ?_
      · intro h57
        obtain rfl : x9_3 = v49 := by omega
        obtain rfl : x9_2 = v53 := by omega
        refine wk_al0 r153_61 (wk_c8 r153_62 (wk_cv2 r153_64 kc_6_175 rfl (m7175_6 _ M34 4116 x9_1 x9_3 x9_2 T hP35 (by decide) ((hQ36.at g_9_1 rfl).trans ((hQ12.at g_9_1 rfl).trans ex9_1)) (by first | with_reducible assumption | omega) (by first | with_reducible assumption | omega) e50 (by first | with_reducible assumption | omega) (by first | with_reducible assumption | omega) e54 (by first | with_reducible assumption | omega) (by first | with_reducible assumption | omega) (by omega) (by omega) (by omega) (by first | assumption | omega | (unfold stepok; omega)) pr44 pr45) (cqI ?_)))
        rintro v70 M58 ⟨hP59, hQ60, h71, h72, h62, h63, h64, h65, h66, xh67, pr68, pr69⟩
        have hF61 : Fr fm_m7153_6v5 M0 M58 := hF37.tr hQ60 rfl
        obtain ⟨v73, e74⟩ : ∃ v, M58 9 3 = v := ⟨_, rfl⟩
        have h75 := (bf_9_3 hP59).1; rw [e74] at h75
        have h76 := (bf_9_3 hP59).2; rw [e74] at h76
        obtain ⟨v77, e78⟩ : ∃ v, M58 9 2 = v := ⟨_, rfl⟩
        have h79 := (bf_9_2 hP59).1; rw [e78] at h79
        have h80 := (bf_9_2 hP59).2; rw [e78] at h80
        rw [show wix 4116 = 20 from rfl] at xh67
        refine wk_ifeq r153_67 ⟨by omega, by omega⟩ ?_ ?_
        · intro h81
          obtain rfl : x9_3 = v73 := by omega
          obtain rfl : x9_2 = v77 := by omega
          refine wk_al0 r153_83 (wk_c8 r153_84 (wk_cv2 r153_86 kc_6_175 rfl (m7175_6 _ M58 4117 x9_1 x9_3 x9_2 T hP59 (by decide) ((hQ60.at g_9_1 rfl).trans ((hQ36.at g_9_1 rfl).trans ((hQ12.at g_9_1 rfl).trans ex9_1))) (by first | with_reducible assumption | omega) (by first | with_reducible assumption | omega) e74 (by first | with_reducible assumption | omega) (by first | with_reducible assumption | omega) e78 (by first | with_reducible assumption | omega) (by first | with_reducible assumption | omega) (by omega) (by omega) (by omega) (by first | assumption | omega | (unfold stepok; omega)) pr68 pr69) (cqI ?_)))
          rintro v94 M82 ⟨hP83, hQ84, h95, h96, h86, h87, h88, h89, h90, xh91, pr92, pr93⟩
          have hF85 : Fr fm_m7153_6v5 M0 M82 := hF61.tr hQ84 rfl
          obtain ⟨v97, e98⟩ : ∃ v, M82 9 3 = v := ⟨_, rfl⟩
          have h99 := (bf_9_3 hP83).1; rw [e98] at h99
          have h100 := (bf_9_3 hP83).2; rw [e98] at h100
          obtain ⟨v101, e102⟩ : ∃ v, M82 9 2 = v := ⟨_, rfl⟩
          have h103 := (bf_9_2 hP83).1; rw [e102] at h103
          have h104 := (bf_9_2 hP83).2; rw [e102] at h104
          rw [show wix 4117 = 21 from rfl] at xh91
          refine wk_ifeq r153_89 ⟨by omega, by omega⟩ ?_ ?_
          · intro h105
            obtain rfl : x9_3 = v97 := by omega
            obtain rfl : x9_2 = v101 := by omega
            refine wk_al0 r153_97 (wk_c8 r153_98 (wk_cv2 r153_100 kc_6_175 rfl (m7175_6 _ M82 4118 x9_1 x9_3 x9_2 T hP83 (by decide) ((hQ84.at g_9_1 rfl).trans ((hQ60.at g_9_1 rfl).trans ((hQ36.at g_9_1 rfl).trans ((hQ12.at g_9_1 rfl).trans ex9_1)))) (by first | with_reducible assumption | omega) (by first | with_reducible assumption | omega) e98 (by first | with_reducible assumption | omega) (by first | with_reducible assumption | omega) e102 (by first | with_reducible assumption | omega) (by first | with_reducible assumption | omega) (by omega) (by omega) (by omega) (by first | assumption | omega | (unfold stepok; omega)) pr92 pr93) (cqI ?_)))
            rintro v118 M106 ⟨hP107, hQ108, h119, h120, h110, h111, h112, h113, h114, xh115, pr116, pr117⟩
            have hF109 : Fr fm_m7153_6v5 M0 M106 := hF85.tr hQ108 rfl
            obtain ⟨v121, e122⟩ : ∃ v, M106 9 3 = v := ⟨_, rfl⟩
            have h123 := (bf_9_3 hP107).1; rw [e122] at h123
            have h124 := (bf_9_3 hP107).2; rw [e122] at h124
            obtain ⟨v125, e126⟩ : ∃ v, M106 9 2 = v := ⟨_, rfl⟩
            have h127 := (bf_9_2 hP107).1; rw [e126] at h127
            have h128 := (bf_9_2 hP107).2; rw [e126] at h128
            rw [show wix 4118 = 19 from rfl] at xh115
            refine wk_ifeq r153_103 ⟨by omega, by omega⟩ ?_ ?_
            · intro h129
              obtain rfl : x9_3 = v121 := by omega
              obtain rfl : x9_2 = v125 := by omega
              refine wk_al0 r153_117 (wk_c1 r153_118 (wk_cv2 r153_119 kc_6_159 rfl (m7159_6 _ M106 1 x9_3 hP107 (by decide) (by decide) e122 (by first | with_reducible assumption | omega) (by first | with_reducible assumption | omega)) (cqI ?_)))
              rintro v138 M130 ⟨hP131, hQ132, h139, h140, h134, h135, h136, h137⟩
              have hF133 : Fr fm_m7153_6v5 M0 M130 := hF109.tr hQ132 rfl
              obtain ⟨v141, e142⟩ : ∃ v, M130 6 4 = v := ⟨_, rfl⟩
              have h143 := (bf_6_4 hP131).1; rw [e142] at h143
              have h144 := (bf_6_4 hP131).2; rw [e142] at h144
              obtain ⟨v145, e146⟩ : ∃ v, M130 6 5 = v := ⟨_, rfl⟩
              have h147 := (bf_6_5 hP131).1; rw [e146] at h147
              have h148 := (bf_6_5 hP131).2; rw [e146] at h148
              subst hQ; exact wk_zret r153_122 ⟨by omega, by omega⟩ (⟨rfl, _, rfl, hP131, hF133, by omega, by omega, by have := ((hQ132.at g_9_3 rfl).trans e122); omega, by have := ((hQ132.at g_9_3 rfl).trans e122); omega, by have := ((hQ132.at g_9_2 rfl).trans e126); omega, by have := ((hQ132.at g_9_2 rfl).trans e126); have := ((hQ132.at g_9_3 rfl).trans e122); omega, by have := e142; omega, by have := e146; omega, by omega, by omega, by omega, by omega, Or.inr ⟨by omega, by rw [e146, e142]; exact A_n xp0 (by omega) (by omega) (by omega) (by omega) (by omega) (by omega) (by omega) (by omega) (by omega) (by omega)⟩, (TXP_sm (Sm.fr hQ132 rfl) pr116), (TCP_sm (Sm.fr hQ132 rfl) pr117)⟩)
            · intro h149
              have r1 : Rch T x9_1 x6_3 c0 (stM T x9_1 (p1 + 1) v121) := A_m xp0 (by omega) (by omega) (by omega) (by omega)
              refine wk_al0 r153_106 (wk_al0 r153_107 (wk_cv1 r153_108 kc_6_173 rfl (m7173_6 _ M106 x9_1 v121 v125 x6_4 x6_5 T hP107 ((hQ108.at g_9_1 rfl).trans ((hQ84.at g_9_1 rfl).trans ((hQ60.at g_9_1 rfl).trans ((hQ36.at g_9_1 rfl).trans ((hQ12.at g_9_1 rfl).trans ex9_1))))) (by first | with_reducible assumption | omega) (by first | with_reducible assumption | omega) e122 (by first | with_reducible assumption | omega) (by first | with_reducible assumption | omega) e126 (by first | with_reducible assumption | omega) (by first | with_reducible assumption | omega) ((hQ108.at g_6_4 rfl).trans ((hQ84.at g_6_4 rfl).trans ((hQ60.at g_6_4 rfl).trans ((hQ36.at g_6_4 rfl).trans ((hQ12.at g_6_4 rfl).trans ex6_4))))) (by first | with_reducible assumption | omega) (by first | with_reducible assumption | omega) ((hQ108.at g_6_5 rfl).trans ((hQ84.at g_6_5 rfl).trans ((hQ60.at g_6_5 rfl).trans ((hQ36.at g_6_5 rfl).trans ((hQ12.at g_6_5 rfl).trans ex6_5))))) (by first | with_reducible assumption | omega) (by first | with_reducible assumption | omega) (by omega) (by omega) (by omega) pr116 pr117) (cqI ?_)))
              rintro v163 M150 ⟨hP151, hQ152, h164, h165, h154, h155, h156, h157, h158, h159, xh160, pr161, pr162⟩
              have hF153 : Fr fm_m7153_6v5 M0 M150 := hF109.tr hQ152 rfl
              obtain ⟨v166, e167⟩ : ∃ v, M150 9 3 = v := ⟨_, rfl⟩
              have h168 := (bf_9_3 hP151).1; rw [e167] at h168
              have h169 := (bf_9_3 hP151).2; rw [e167] at h169
              obtain ⟨v170, e171⟩ : ∃ v, M150 9 2 = v := ⟨_, rfl⟩
              have h172 := (bf_9_2 hP151).1; rw [e171] at h172
              have h173 := (bf_9_2 hP151).2; rw [e171] at h173
              obtain ⟨v174, e175⟩ : ∃ v, M150 6 4 = v := ⟨_, rfl⟩
              have h176 := (bf_6_4 hP151).1; rw [e175] at h176
              have h177 := (bf_6_4 hP151).2; rw [e175] at h177
              obtain ⟨v178, e179⟩ : ∃ v, M150 6 5 = v := ⟨_, rfl⟩
              have h180 := (bf_6_5 hP151).1; rw [e179] at h180
              have h181 := (bf_6_5 hP151).2; rw [e179] at h181
              refine wk_cv2 r153_111 kc_6_163 rfl (m7163_6 _ M150 v163 x9_1 v166 v170 v174 v178 x6_3 T c0 ((p1 + 1)) hP151 (by first | with_reducible assumption | omega) (by first | with_reducible assumption | omega) ((hQ152.at g_9_1 rfl).trans ((hQ108.at g_9_1 rfl).trans ((hQ84.at g_9_1 rfl).trans ((hQ60.at g_9_1 rfl).trans ((hQ36.at g_9_1 rfl).trans ((hQ12.at g_9_1 rfl).trans ex9_1)))))) (by first | with_reducible assumption | omega) (by first | with_reducible assumption | omega) e167 (by first | with_reducible assumption | omega) (by first | with_reducible assumption | omega) e171 (by first | with_reducible assumption | omega) (by first | with_reducible assumption | omega) e175 (by first | with_reducible assumption | omega) (by first | with_reducible assumption | omega) e179 (by first | with_reducible assumption | omega) (by first | with_reducible assumption | omega) ((hQ152.at g_6_3 rfl).trans ((hQ108.at g_6_3 rfl).trans ((hQ84.at g_6_3 rfl).trans ((hQ60.at g_6_3 rfl).trans ((hQ36.at g_6_3 rfl).trans ((hQ12.at g_6_3 rfl).trans ex6_3)))))) (by first | with_reducible assumption | omega) (by first | with_reducible assumption | omega) (by omega) (by omega) (by omega) (MX_mk r1 (by omega)) pr161 pr162) (cqI ?_)
              rintro v200 M182 ⟨hP183, hQ184, h201, h202, h186, h187, h188, h189, h190, h191, h192, h193, h194, h195, h196, xh197, pr198, pr199⟩
              have hF185 : Fr fm_m7153_6v5 M0 M182 := hF153.tr hQ184 rfl
              obtain ⟨v203, e204⟩ : ∃ v, M182 9 3 = v := ⟨_, rfl⟩
              have h205 := (bf_9_3 hP183).1; rw [e204] at h205
              have h206 := (bf_9_3 hP183).2; rw [e204] at h206
              obtain ⟨v207, e208⟩ : ∃ v, M182 9 2 = v := ⟨_, rfl⟩
              have h209 := (bf_9_2 hP183).1; rw [e208] at h209
              have h210 := (bf_9_2 hP183).2; rw [e208] at h210
              obtain ⟨v211, e212⟩ : ∃ v, M182 6 4 = v := ⟨_, rfl⟩
              have h213 := (bf_6_4 hP183).1; rw [e212] at h213
              have h214 := (bf_6_4 hP183).2; rw [e212] at h214
              obtain ⟨v215, e216⟩ : ∃ v, M182 6 5 = v := ⟨_, rfl⟩
              have h217 := (bf_6_5 hP183).1; rw [e216] at h217
              have h218 := (bf_6_5 hP183).2; rw [e216] at h218
              refine wk_goto r153_114 ?_
              subst hQ; exact wk_zret r153_122 ⟨by omega, by omega⟩ (⟨rfl, _, rfl, hP183, hF185, by omega, by omega, by have := e204; omega, by have := e204; omega, by have := e208; omega, by have := e208; have := e204; omega, by have := e212; omega, by have := e216; omega, by have := e212; omega, by have := e212; omega, by have := e216; omega, by have := e216; omega, by rcases (show v200 = 1 ∨ v200 = 0 by omega) with q9 | q9; (exact Or.inl ⟨q9, by rw [e204]; exact X_k (or_l xh197 (by omega)) (by omega)⟩); (exact Or.inr ⟨q9, by rw [e216, e212]; exact F_k (or_r xh197 (by omega)) (by omega) (by omega)⟩), pr198, pr199⟩)
          · intro h219
            have r1 : AX T x9_1 x6_3 c0 (p1 + 1) 99 v97 := A1 xp0 (by omega) (by omega) (by omega) (by omega) (by omega)
            refine wk_al0 r153_92 (wk_cv1 r153_93 kc_6_176 rfl (m7176_6 _ M82 x9_1 v97 v101 x6_4 x6_5 x6_3 T c0 ((p1 + 1)) hP83 ((hQ84.at g_9_1 rfl).trans ((hQ60.at g_9_1 rfl).trans ((hQ36.at g_9_1 rfl).trans ((hQ12.at g_9_1 rfl).trans ex9_1)))) (by first | with_reducible assumption | omega) (by first | with_reducible assumption | omega) e98 (by first | with_reducible assumption | omega) (by first | with_reducible assumption | omega) e102 (by first | with_reducible assumption | omega) (by first | with_reducible assumption | omega) ((hQ84.at g_6_4 rfl).trans ((hQ60.at g_6_4 rfl).trans ((hQ36.at g_6_4 rfl).trans ((hQ12.at g_6_4 rfl).trans ex6_4)))) (by first | with_reducible assumption | omega) (by first | with_reducible assumption | omega) ((hQ84.at g_6_5 rfl).trans ((hQ60.at g_6_5 rfl).trans ((hQ36.at g_6_5 rfl).trans ((hQ12.at g_6_5 rfl).trans ex6_5)))) (by first | with_reducible assumption | omega) (by first | with_reducible assumption | omega) ((hQ84.at g_6_3 rfl).trans ((hQ60.at g_6_3 rfl).trans ((hQ36.at g_6_3 rfl).trans ((hQ12.at g_6_3 rfl).trans ex6_3)))) (by first | with_reducible assumption | omega) (by first | with_reducible assumption | omega) (by omega) (by omega) (by omega) (r1) pr92 pr93) (cqI ?_))
            rintro v237 M220 ⟨hP221, hQ222, h238, h239, h224, h225, h226, h227, h228, h229, h230, h231, h232, h233, xh234, pr235, pr236⟩
            have hF223 : Fr fm_m7153_6v5 M0 M220 := hF85.tr hQ222 rfl
            obtain ⟨v240, e241⟩ : ∃ v, M220 9 3 = v := ⟨_, rfl⟩
            have h242 := (bf_9_3 hP221).1; rw [e241] at h242
            have h243 := (bf_9_3 hP221).2; rw [e241] at h243
            obtain ⟨v244, e245⟩ : ∃ v, M220 9 2 = v := ⟨_, rfl⟩
            have h246 := (bf_9_2 hP221).1; rw [e245] at h246
            have h247 := (bf_9_2 hP221).2; rw [e245] at h247
            obtain ⟨v248, e249⟩ : ∃ v, M220 6 4 = v := ⟨_, rfl⟩
            have h250 := (bf_6_4 hP221).1; rw [e249] at h250
            have h251 := (bf_6_4 hP221).2; rw [e249] at h251
            obtain ⟨v252, e253⟩ : ∃ v, M220 6 5 = v := ⟨_, rfl⟩
            have h254 := (bf_6_5 hP221).1; rw [e253] at h254
            have h255 := (bf_6_5 hP221).2; rw [e253] at h255
            subst hQ; exact wk_zret r153_96 ⟨by omega, by omega⟩ (⟨rfl, _, rfl, hP221, hF223, by omega, by omega, by have := e241; omega, by have := e241; omega, by have := e245; omega, by have := e245; have := e241; omega, by have := e249; omega, by have := e253; omega, by have := e249; omega, by have := e249; omega, by have := e253; omega, by have := e253; omega, by rcases (show v237 = 1 ∨ v237 = 0 by omega) with q9 | q9; (exact Or.inl ⟨q9, by rw [e241]; exact X_k (or_l xh234 (by omega)) (by omega)⟩); (exact Or.inr ⟨q9, by rw [e253, e249]; exact F_k (or_r xh234 (by omega)) (by omega) (by omega)⟩), pr235, pr236⟩)
        · intro h256
          have r1 : AX T x9_1 x6_3 c0 (p1 + 1) 1 v73 := A1 xp0 (by omega) (by omega) (by omega) (by omega) (by omega)
          refine wk_al0 r153_70 (wk_c2 r153_71 (wk_al0 r153_73 (wk_c1 r153_74 (wk_c1 r153_75 (wk_cv3 r153_76 kc_6_167 rfl (m7167_6 _ M58 0 1 x9_1 v73 v77 x6_4 x6_5 T hP59 (by decide) (by decide) (by decide) (by decide) ((hQ60.at g_9_1 rfl).trans ((hQ36.at g_9_1 rfl).trans ((hQ12.at g_9_1 rfl).trans ex9_1))) (by first | with_reducible assumption | omega) (by first | with_reducible assumption | omega) e74 (by first | with_reducible assumption | omega) (by first | with_reducible assumption | omega) e78 (by first | with_reducible assumption | omega) (by first | with_reducible assumption | omega) ((hQ60.at g_6_4 rfl).trans ((hQ36.at g_6_4 rfl).trans ((hQ12.at g_6_4 rfl).trans ex6_4))) (by first | with_reducible assumption | omega) (by first | with_reducible assumption | omega) ((hQ60.at g_6_5 rfl).trans ((hQ36.at g_6_5 rfl).trans ((hQ12.at g_6_5 rfl).trans ex6_5))) (by first | with_reducible assumption | omega) (by first | with_reducible assumption | omega) (by omega) (by omega) (by omega) pr68 pr69) (cqI ?_))))))
          rintro v271 M257 ⟨hP258, hQ259, h272, h273, h261, h262, h263, h264, h265, h266, h267, xh268, pr269, pr270⟩
          have hF260 : Fr fm_m7153_6v5 M0 M257 := hF61.tr hQ259 rfl
          obtain ⟨v274, e275⟩ : ∃ v, M257 9 3 = v := ⟨_, rfl⟩
          have h276 := (bf_9_3 hP258).1; rw [e275] at h276
          have h277 := (bf_9_3 hP258).2; rw [e275] at h277
          obtain ⟨v278, e279⟩ : ∃ v, M257 9 2 = v := ⟨_, rfl⟩
          have h280 := (bf_9_2 hP258).1; rw [e279] at h280
          have h281 := (bf_9_2 hP258).2; rw [e279] at h281
          obtain ⟨v282, e283⟩ : ∃ v, M257 6 4 = v := ⟨_, rfl⟩
          have h284 := (bf_6_4 hP258).1; rw [e283] at h284
          have h285 := (bf_6_4 hP258).2; rw [e283] at h285
          obtain ⟨v286, e287⟩ : ∃ v, M257 6 5 = v := ⟨_, rfl⟩
          have h288 := (bf_6_5 hP258).1; rw [e287] at h288
          have h289 := (bf_6_5 hP258).2; rw [e287] at h289
          refine wk_cv3 r153_79 kc_6_171 rfl (m7171_6 _ M257 46 v271 hP258 (by decide) (by decide) (by first | with_reducible assumption | omega) (by first | with_reducible assumption | omega)) (cqI ?_)
          rintro v295 M290 ⟨hP291, hQ292, h296, h297, xh294⟩
          have hF293 : Fr fm_m7153_6v5 M0 M290 := hF260.tr hQ292 rfl
          subst hQ; exact wk_zret r153_82 ⟨by omega, by omega⟩ (⟨rfl, _, rfl, hP291, hF293, by omega, by omega, by have := ((hQ292.at g_9_3 rfl).trans e275); omega, by have := ((hQ292.at g_9_3 rfl).trans e275); omega, by have := ((hQ292.at g_9_2 rfl).trans e279); omega, by have := ((hQ292.at g_9_2 rfl).trans e279); have := ((hQ292.at g_9_3 rfl).trans e275); omega, by have := ((hQ292.at g_6_4 rfl).trans e283); omega, by have := ((hQ292.at g_6_5 rfl).trans e287); omega, by have := ((hQ292.at g_6_4 rfl).trans e283); omega, by have := ((hQ292.at g_6_4 rfl).trans e283); omega, by have := ((hQ292.at g_6_5 rfl).trans e287); omega, by have := ((hQ292.at g_6_5 rfl).trans e287); omega, by rcases (show v295 = 1 ∨ v295 = 0 by omega) with q9 | q9; (exact Or.inl ⟨q9, by rw [((hQ292.at g_9_3 rfl).trans e275)]; exact AX_0 r1 (by omega) (by omega)⟩); (exact Or.inr ⟨q9, by rw [((hQ292.at g_6_5 rfl).trans e287), ((hQ292.at g_6_4 rfl).trans e283)]; exact AX_e r1 (by omega) (by omega) (by omega)⟩), (TXP_sm (Sm.fr hQ292 rfl) pr269), (TCP_sm (Sm.fr hQ292 rfl) pr270)⟩)
      · intro h298
        have r1 : AX T x9_1 x6_3 c0 (p1 + 1) 6 v49 := A1 xp0 (by omega) (by omega) (by omega) (by omega) (by omega)
        refine wk_al0 r153_47 (wk_c2 r153_48 (wk_al0 r153_50 (wk_c1 r153_51 (wk_c2 r153_52 (wk_cv3 r153_54 kc_6_167 rfl (m7167_6 _ M34 0 6 x9_1 v49 v53 x6_4 x6_5 T hP35 (by decide) (by decide) (by decide) (by decide) ((hQ36.at g_9_1 rfl).trans ((hQ12.at g_9_1 rfl).trans ex9_1)) (by first | with_reducible assumption | omega) (by first | with_reducible assumption | omega) e50 (by first | with_reducible assumption | omega) (by first | with_reducible assumption | omega) e54 (by first | with_reducible assumption | omega) (by first | with_reducible assumption | omega) ((hQ36.at g_6_4 rfl).trans ((hQ12.at g_6_4 rfl).trans ex6_4)) (by first | with_reducible assumption | omega) (by first | with_reducible assumption | omega) ((hQ36.at g_6_5 rfl).trans ((hQ12.at g_6_5 rfl).trans ex6_5)) (by first | with_reducible assumption | omega) (by first | with_reducible assumption | omega) (by omega) (by omega) (by omega) pr44 pr45) (cqI ?_))))))
        rintro v313 M299 ⟨hP300, hQ301, h314, h315, h303, h304, h305, h306, h307, h308, h309, xh310, pr311, pr312⟩
        have hF302 : Fr fm_m7153_6v5 M0 M299 := hF37.tr hQ301 rfl
        obtain ⟨v316, e317⟩ : ∃ v, M299 9 3 = v := ⟨_, rfl⟩
        have h318 := (bf_9_3 hP300).1; rw [e317] at h318
        have h319 := (bf_9_3 hP300).2; rw [e317] at h319
        obtain ⟨v320, e321⟩ : ∃ v, M299 9 2 = v := ⟨_, rfl⟩
        have h322 := (bf_9_2 hP300).1; rw [e321] at h322
        have h323 := (bf_9_2 hP300).2; rw [e321] at h323
        obtain ⟨v324, e325⟩ : ∃ v, M299 6 4 = v := ⟨_, rfl⟩
        have h326 := (bf_6_4 hP300).1; rw [e325] at h326
        have h327 := (bf_6_4 hP300).2; rw [e325] at h327
        obtain ⟨v328, e329⟩ : ∃ v, M299 6 5 = v := ⟨_, rfl⟩
        have h330 := (bf_6_5 hP300).1; rw [e329] at h330
        have h331 := (bf_6_5 hP300).2; rw [e329] at h331
        refine wk_cv3 r153_57 kc_6_171 rfl (m7171_6v1 _ M299 39 v313 hP300 (by decide) (by decide) (by first | with_reducible assumption | omega) (by first | with_reducible assumption | omega)) (cqI ?_)
        rintro v337 M332 ⟨hP333, hQ334, h338, h339, xh336⟩
        have hF335 : Fr fm_m7153_6v5 M0 M332 := hF302.tr hQ334 rfl
        subst hQ; exact wk_zret r153_60 ⟨by omega, by omega⟩ (⟨rfl, _, rfl, hP333, hF335, by omega, by omega, by have := ((hQ334.at g_9_3 rfl).trans e317); omega, by have := ((hQ334.at g_9_3 rfl).trans e317); omega, by have := ((hQ334.at g_9_2 rfl).trans e321); omega, by have := ((hQ334.at g_9_2 rfl).trans e321); have := ((hQ334.at g_9_3 rfl).trans e317); omega, by have := ((hQ334.at g_6_4 rfl).trans e325); omega, by have := ((hQ334.at g_6_5 rfl).trans e329); omega, by have := ((hQ334.at g_6_4 rfl).trans e325); omega, by have := ((hQ334.at g_6_4 rfl).trans e325); omega, by have := ((hQ334.at g_6_5 rfl).trans e329); omega, by have := ((hQ334.at g_6_5 rfl).trans e329); omega, by rcases (show v337 = 1 ∨ v337 = 0 by omega) with q9 | q9; (exact Or.inl ⟨q9, by rw [((hQ334.at g_9_3 rfl).trans e317)]; exact AX_0 r1 (by omega) (by omega)⟩); (exact Or.inr ⟨q9, by rw [((hQ334.at g_6_5 rfl).trans e329), ((hQ334.at g_6_4 rfl).trans e325)]; exact AX_e r1 (by omega) (by omega) (by omega)⟩), (TXP_sm (Sm.fr hQ334 rfl) pr311), (TCP_sm (Sm.fr hQ334 rfl) pr312)⟩)
    · intro h340
      have r1 : AX T x9_1 x6_3 c0 (p1 + 1) 3 v25 := A1 xp0 (by omega) (by omega) (by omega) (by omega) (by omega)
      refine wk_al0 r153_25 (wk_c2 r153_26 (wk_al0 r153_28 (wk_c1 r153_29 (wk_c1 r153_30 (wk_cv3 r153_31 kc_6_167 rfl (m7167_6 _ M10 0 3 x9_1 v25 v29 x6_4 x6_5 T hP11 (by decide) (by decide) (by decide) (by decide) ((hQ12.at g_9_1 rfl).trans ex9_1) (by first | with_reducible assumption | omega) (by first | with_reducible assumption | omega) e26 (by first | with_reducible assumption | omega) (by first | with_reducible assumption | omega) e30 (by first | with_reducible assumption | omega) (by first | with_reducible assumption | omega) ((hQ12.at g_6_4 rfl).trans ex6_4) (by first | with_reducible assumption | omega) (by first | with_reducible assumption | omega) ((hQ12.at g_6_5 rfl).trans ex6_5) (by first | with_reducible assumption | omega) (by first | with_reducible assumption | omega) (by omega) (by omega) (by omega) pr20 pr21) (cqI ?_))))))
      rintro v355 M341 ⟨hP342, hQ343, h356, h357, h345, h346, h347, h348, h349, h350, h351, xh352, pr353, pr354⟩
      have hF344 : Fr fm_m7153_6v5 M0 M341 := hF13.tr hQ343 rfl
      obtain ⟨v358, e359⟩ : ∃ v, M341 9 3 = v := ⟨_, rfl⟩
      have h360 := (bf_9_3 hP342).1; rw [e359] at h360
      have h361 := (bf_9_3 hP342).2; rw [e359] at h361
      obtain ⟨v362, e363⟩ : ∃ v, M341 9 2 = v := ⟨_, rfl⟩
      have h364 := (bf_9_2 hP342).1; rw [e363] at h364
      have h365 := (bf_9_2 hP342).2; rw [e363] at h365
      obtain ⟨v366, e367⟩ : ∃ v, M341 6 4 = v := ⟨_, rfl⟩
      have h368 := (bf_6_4 hP342).1; rw [e367] at h368
      have h369 := (bf_6_4 hP342).2; rw [e367] at h369
      obtain ⟨v370, e371⟩ : ∃ v, M341 6 5 = v := ⟨_, rfl⟩
      have h372 := (bf_6_5 hP342).1; rw [e371] at h372
      have h373 := (bf_6_5 hP342).2; rw [e371] at h373
      refine wk_cv3 r153_34 kc_6_171 rfl (m7171_6v2 _ M341 35 v355 hP342 (by decide) (by decide) (by first | with_reducible assumption | omega) (by first | with_reducible assumption | omega)) (cqI ?_)
      rintro v379 M374 ⟨hP375, hQ376, h380, h381, xh378⟩
      have hF377 : Fr fm_m7153_6v5 M0 M374 := hF344.tr hQ376 rfl
      subst hQ; exact wk_zret r153_37 ⟨by omega, by omega⟩ (⟨rfl, _, rfl, hP375, hF377, by omega, by omega, by have := ((hQ376.at g_9_3 rfl).trans e359); omega, by have := ((hQ376.at g_9_3 rfl).trans e359); omega, by have := ((hQ376.at g_9_2 rfl).trans e363); omega, by have := ((hQ376.at g_9_2 rfl).trans e363); have := ((hQ376.at g_9_3 rfl).trans e359); omega, by have := ((hQ376.at g_6_4 rfl).trans e367); omega, by have := ((hQ376.at g_6_5 rfl).trans e371); omega, by have := ((hQ376.at g_6_4 rfl).trans e367); omega, by have := ((hQ376.at g_6_4 rfl).trans e367); omega, by have := ((hQ376.at g_6_5 rfl).trans e371); omega, by have := ((hQ376.at g_6_5 rfl).trans e371); omega, by rcases (show v379 = 1 ∨ v379 = 0 by omega) with q9 | q9; (exact Or.inl ⟨q9, by rw [((hQ376.at g_9_3 rfl).trans e359)]; exact AX_0 r1 (by omega) (by omega)⟩); (exact Or.inr ⟨q9, by rw [((hQ376.at g_6_5 rfl).trans e371), ((hQ376.at g_6_4 rfl).trans e367)]; exact AX_e r1 (by omega) (by omega) (by omega)⟩), (TXP_sm (Sm.fr hQ376 rfl) pr353), (TCP_sm (Sm.fr hQ376 rfl) pr354)⟩)
  · intro h382
    refine wk_al0 r153_10 (wk_il1 r153_11 (wk_cv2 r153_12 kc_6_152 rfl (m7152_6v5 _ M0 p1 x9_1 x9_3 x9_2 x6_4 x6_5 x6_3 T c0 gk hP0 (by first | with_reducible assumption | omega) (by first | with_reducible assumption | omega) ex9_1 (by first | with_reducible assumption | omega) (by first | with_reducible assumption | omega) ex9_3 (by first | with_reducible assumption | omega) (by first | with_reducible assumption | omega) ex9_2 (by first | with_reducible assumption | omega) (by first | with_reducible assumption | omega) ex6_4 (by first | with_reducible assumption | omega) (by first | with_reducible assumption | omega) ex6_5 (by first | with_reducible assumption | omega) (by first | with_reducible assumption | omega) ex6_3 (by first | with_reducible assumption | omega) (by first | with_reducible assumption | omega) (by omega) (by omega) (by omega) (xp0) (by omega) pp_TX pp_TC) (cqI ?_)))
    rintro v400 M383 ⟨hP384, hQ385, h401, h402, h387, h388, h389, h390, h391, h392, h393, h394, h395, h396, xh397, pr398, pr399⟩
    have hF386 : Fr fm_m7153_6v5 M0 M383 := hF0.tr hQ385 rfl
    obtain ⟨v403, e404⟩ : ∃ v, M383 9 3 = v := ⟨_, rfl⟩
    have h405 := (bf_9_3 hP384).1; rw [e404] at h405
    have h406 := (bf_9_3 hP384).2; rw [e404] at h406
    obtain ⟨v407, e408⟩ : ∃ v, M383 9 2 = v := ⟨_, rfl⟩
    have h409 := (bf_9_2 hP384).1; rw [e408] at h409
    have h410 := (bf_9_2 hP384).2; rw [e408] at h410
    obtain ⟨v411, e412⟩ : ∃ v, M383 6 4 = v := ⟨_, rfl⟩
    have h413 := (bf_6_4 hP384).1; rw [e412] at h413
    have h414 := (bf_6_4 hP384).2; rw [e412] at h414
    obtain ⟨v415, e416⟩ : ∃ v, M383 6 5 = v := ⟨_, rfl⟩
    have h417 := (bf_6_5 hP384).1; rw [e416] at h417
    have h418 := (bf_6_5 hP384).2; rw [e416] at h418
    subst hQ; exact wk_zret r153_15 ⟨by omega, by omega⟩ (⟨rfl, _, rfl, hP384, hF386, by omega, by omega, by have := e404; omega, by have := e404; omega, by have := e408; omega, by have := e408; have := e404; omega, by have := e412; omega, by have := e416; omega, by have := e412; omega, by have := e412; omega, by have := e416; omega, by have := e416; omega, by rcases (show v400 = 1 ∨ v400 = 0 by omega) with q9 | q9; (exact Or.inl ⟨q9, by rw [e404]; exact X_k (or_l xh397 (by omega)) (by omega)⟩); (exact Or.inr ⟨q9, by rw [e416, e412]; exact F_k (or_r xh397 (by omega)) (by omega) (by omega)⟩), pr398, pr399⟩)
def fm_m7166_6v5 : Nat := 3941068970131456
/-- IslandHall$Parser.negation -/
theorem m7166_6v5 {B : eB} (d : Nat) (M0 : Mm) (p1 : Int) (x9_1 : Int) (x9_3 : Int) (x9_2 : Int) (x6_4 : Int) (x6_5 : Int) (x6_3 : Int) (T : Int → Int) (c0 : Cg) (hP0 : Pw M0) (l1 : 5 ≤ p1) (u1 : p1 ≤ 5) (ex9_1 : M0 9 1 = x9_1) (lx9_1 : 0 ≤ x9_1) (ux9_1 : x9_1 ≤ 500) (ex9_3 : M0 9 3 = x9_3) (lx9_3 : 0 ≤ x9_3) (ux9_3 : x9_3 ≤ 500) (ex9_2 : M0 9 2 = x9_2) (lx9_2 : 0 ≤ x9_2) (ux9_2 : x9_2 ≤ 500) (ex6_4 : M0 6 4 = x6_4) (lx6_4 : 0 ≤ x6_4) (ux6_4 : x6_4 ≤ 6) (ex6_5 : M0 6 5 = x6_5) (lx6_5 : (-1) ≤ x6_5) (ux6_5 : x6_5 ≤ 500) (ex6_3 : M0 6 3 = x6_3) (lx6_3 : (-1) ≤ x6_3) (ux6_3 : x6_3 ≤ 7) (rp0 : 0 ≤ x9_1 + (-1) * x9_2) (rp1 : 0 ≤ x9_2 + (-1) * x9_3) (rp2 : 0 ≤ x9_1 + (-1) * x9_3) (xp0 : Rch T x9_1 x6_3 c0 (1, p1 + 1, x9_3, 0)) (pp_TX : TXP T M0) (pp_TC : TCP T M0) : Ct B (d + 8) 166 [R 6, I p1] M0 (qI fun z M => Pw M ∧ Fr fm_m7166_6v5 M0 M ∧ 0 ≤ z ∧ z ≤ 1 ∧ 0 ≤ M 9 3 + (-1) * x9_3 ∧ 0 ≤ x9_1 + (-1) * (M 9 3) ∧ 0 ≤ x9_1 + (-1) * (M 9 2) ∧ 0 ≤ M 9 2 + (-1) * (M 9 3) ∧ 0 ≤ M 6 4 ∧ 0 ≤ M 6 5 + 1 ∧ (z = 1 → 0 ≤ M 6 4 + (-1) * x6_4) ∧ (z = 1 → 0 ≤ (-1) * (M 6 4) + x6_4) ∧ (z = 1 → 0 ≤ M 6 5 + (-1) * x6_5) ∧ (z = 1 → 0 ≤ (-1) * (M 6 5) + x6_5) ∧ ((z = 1 ∧ Rch T x9_1 x6_3 c0 (2, p1 + 1, M 9 3, 0)) ∨ (z = 0 ∧ Rch T x9_1 x6_3 c0 (3, 0, M 6 5, M 6 4))) ∧ (TXP T M) ∧ (TCP T M)) := by
  refine ct_of (d := d + 7) (k := 2) (L := [some (R 6), some (I p1), none, none]) rfl rfl rfl ?_
  have hF0 := Fr.rf fm_m7166_6v5 M0
  generalize hQ : (qI fun z M => Pw M ∧ Fr fm_m7166_6v5 M0 M ∧ 0 ≤ z ∧ z ≤ 1 ∧ 0 ≤ M 9 3 + (-1) * x9_3 ∧ 0 ≤ x9_1 + (-1) * (M 9 3) ∧ 0 ≤ x9_1 + (-1) * (M 9 2) ∧ 0 ≤ M 9 2 + (-1) * (M 9 3) ∧ 0 ≤ M 6 4 ∧ 0 ≤ M 6 5 + 1 ∧ (z = 1 → 0 ≤ M 6 4 + (-1) * x6_4) ∧ (z = 1 → 0 ≤ (-1) * (M 6 4) + x6_4) ∧ (z = 1 → 0 ≤ M 6 5 + (-1) * x6_5) ∧ (z = 1 → 0 ≤ (-1) * (M 6 5) + x6_5) ∧ ((z = 1 ∧ Rch T x9_1 x6_3 c0 (2, p1 + 1, M 9 3, 0)) ∨ (z = 0 ∧ Rch T x9_1 x6_3 c0 (3, 0, M 6 5, M 6 4))) ∧ (TXP T M) ∧ (TCP T M)) = Q
  refine wk_c1 r166_0 (wk_is2 r166_1 rfl ?_)
  have c2_1483 : ∀ (k1483 : Nat) (M1183 : Mm) (v1180 : Int) (v1186 : Int) (v1190 : Int), (6 - v1180).toNat = k1483 → Pw M1183 → Fr fm_m7166_6v5 M0 M1183 → M1183 9 3 = v1186 → M1183 9 2 = v1190 → M1183 9 1 = x9_1 → M1183 6 4 = x6_4 → M1183 6 5 = x6_5 → M1183 6 3 = x6_3 → 0 ≤ v1180 → v1180 ≤ 6 → 0 ≤ v1186 → v1186 ≤ 500 → 0 ≤ v1190 → v1190 ≤ 500 → (TXP T M1183) → (TCP T M1183) → 0 ≤ 1 * v1186 + (-1) * x9_3 → 0 ≤ 1 * x9_1 + (-1) * v1186 → 0 ≤ 1 * x9_1 + (-1) * v1190 → 0 ≤ 1 * v1190 + (-1) * v1186 → 0 ≤ (-1) * v1180 + v1186 + 0 → 0 ≤ (-1) * v1180 + v1190 + 0 → 0 ≤ (-1) * v1186 + v1180 + 500 → 0 ≤ (-1) * v1186 + v1190 + 0 → 0 ≤ (-1) * v1190 + v1180 + 500 → 0 ≤ (-1) * v1190 + v1186 + 500 → (Rch T x9_1 x6_3 c0 (1, p1 + 1, v1186, v1180)) → Wp B (d + 7) 166 2 [some (R 6), some (I p1), some (I v1180), none] [] M1183 Q := by
    refine lp_ind ?_
    intro k1483 ih1483 M1183 v1180 v1186 v1190 hk1483 hP1184 hF1185 e1189 e1193 e1194 e1195 e1196 e1197 h1181 h1182 h1187 h1188 h1191 h1192 pr1198 pr1199 h1200 h1201 h1202 h1203 h1204 h1205 h1206 h1207 h1208 h1209 ti1210
    refine wk_il2 r166_2 (wk_c2 r166_3 ?_)
    refine wk_icge r166_5 ⟨by omega, by omega⟩ (by decide) ?_ ?_
    · intro h1211
      refine wk_al0 r166_23 (wk_getfr r166_24 fd_6_0 (br_6_0 hP1184) (wk_c8 r166_27 (wk_cv2 r166_29 kc_9_239 rfl (m7239_9 _ M1183 4119 x9_1 v1186 T hP1184 (by decide) e1194 (by first | with_reducible assumption | omega) (by first | with_reducible assumption | omega) e1189 (by first | with_reducible assumption | omega) (by first | with_reducible assumption | omega) (by first | assumption | omega | (unfold stepok; omega)) pr1198 pr1199) (cqI ?_))))
      rintro v1217 M1212 ⟨hP1213, hQ1214, h1218, h1219, xh1216⟩
      obtain rfl := Fr.same hQ1214
      rw [show wix 4119 = 14 from rfl] at xh1216
      refine wk_ifeq r166_32 ⟨by omega, by omega⟩ ?_ ?_
      · intro h1220
        refine wk_al0 r166_41 (wk_getfr r166_42 fd_6_0 (br_6_0 hP1184) (wk_c2 r166_45 (wk_cv2 r166_47 kc_9_238 rfl (m7238_9 _ M1183 40 x9_1 v1186 T hP1184 (by decide) (by decide) e1194 (by first | with_reducible assumption | omega) (by first | with_reducible assumption | omega) e1189 (by first | with_reducible assumption | omega) (by first | with_reducible assumption | omega) pr1198 pr1199) (cqI ?_))))
        rintro v1226 M1221 ⟨hP1222, hQ1223, h1227, h1228, xh1225⟩
        obtain rfl := Fr.same hQ1223
        refine wk_ifeq r166_50 ⟨by omega, by omega⟩ ?_ ?_
        · intro h1229
          refine wk_al0 r166_61 (wk_il1 r166_62 ?_)
          refine wk_cv2 r166_63 kc_6_153 rfl (m7153_6v5 _ M1183 p1 x9_1 v1186 v1190 x6_4 x6_5 x6_3 T c0 v1180 hP1184 (by first | with_reducible assumption | omega) (by first | with_reducible assumption | omega) e1194 (by first | with_reducible assumption | omega) (by first | with_reducible assumption | omega) e1189 (by first | with_reducible assumption | omega) (by first | with_reducible assumption | omega) e1193 (by first | with_reducible assumption | omega) (by first | with_reducible assumption | omega) e1195 (by first | with_reducible assumption | omega) (by first | with_reducible assumption | omega) e1196 (by first | with_reducible assumption | omega) (by first | with_reducible assumption | omega) e1197 (by first | with_reducible assumption | omega) (by first | with_reducible assumption | omega) (by omega) (by omega) (by omega) (ti1210) (by omega) (by omega) pr1198 pr1199) (cqI ?_)
          rintro v1247 M1230 ⟨hP1231, hQ1232, h1248, h1249, h1234, h1235, h1236, h1237, h1238, h1239, h1240, h1241, h1242, h1243, xh1244, pr1245, pr1246⟩
          have hF1233 : Fr fm_m7166_6v5 M0 M1230 := hF1185.tr hQ1232 rfl
          obtain ⟨v1250, e1251⟩ : ∃ v, M1230 9 3 = v := ⟨_, rfl⟩
          have h1252 := (bf_9_3 hP1231).1; rw [e1251] at h1252
          have h1253 := (bf_9_3 hP1231).2; rw [e1251] at h1253
          obtain ⟨v1254, e1255⟩ : ∃ v, M1230 9 2 = v := ⟨_, rfl⟩
          have h1256 := (bf_9_2 hP1231).1; rw [e1255] at h1256
          have h1257 := (bf_9_2 hP1231).2; rw [e1255] at h1257
          obtain ⟨v1258, e1259⟩ : ∃ v, M1230 6 4 = v := ⟨_, rfl⟩
          have h1260 := (bf_6_4 hP1231).1; rw [e1259] at h1260
          have h1261 := (bf_6_4 hP1231).2; rw [e1259] at h1261
          obtain ⟨v1262, e1263⟩ : ∃ v, M1230 6 5 = v := ⟨_, rfl⟩
          have h1264 := (bf_6_5 hP1231).1; rw [e1263] at h1264
          have h1265 := (bf_6_5 hP1231).2; rw [e1263] at h1265
          refine wk_is3 r166_66 rfl (wk_il3 r166_67 ?_)
          refine wk_ifeq r166_68 ⟨by omega, by omega⟩ ?_ ?_
          · intro h1266
            refine wk_c1 r166_90 ?_
            subst hQ; exact wk_zret r166_91 (by decide) (⟨rfl, _, rfl, hP1231, hF1233, by omega, by omega, by have := e1251; omega, by have := e1251; omega, by have := e1255; omega, by have := e1255; have := e1251; omega, by have := e1259; omega, by have := e1263; omega, by omega, by omega, by omega, by omega, Or.inr ⟨by omega, by rw [e1263, e1259]; exact F_k (or_r xh1244 (by omega)) (by omega) (by omega)⟩, pr1245, pr1246⟩)
          · intro h1267
            refine wk_il2 r166_71 (wk_c1 r166_72 (wk_iandc 1 2 r166_73 ⟨rfl, by decide⟩ rfl ?_))
            refine wk_ifeq r166_74 ⟨by omega, by omega⟩ ?_ ?_
            · intro h1269
              refine wk_c1 r166_86 (wk_goto r166_87 ?_)
              subst hQ; exact wk_zret r166_91 (by decide) (⟨rfl, _, rfl, hP1231, hF1233, by omega, by omega, by have := e1251; omega, by have := e1251; omega, by have := e1255; omega, by have := e1255; have := e1251; omega, by have := e1259; omega, by have := e1263; omega, by have := e1259; omega, by have := e1259; omega, by have := e1263; omega, by have := e1263; omega, Or.inl ⟨by omega, by rw [e1251]; exact X_k (or_l xh1244 (by omega)) (by omega)⟩, pr1245, pr1246⟩)
            · intro h1270
              exfalso
              omega
        · intro h1271
          refine wk_al0 r166_53 (wk_il1 r166_54 ?_)
          refine wk_cv2 r166_55 kc_6_168 rfl (m7168_6v5 _ M1183 p1 x9_1 v1186 v1190 x6_4 x6_5 x6_3 T c0 hP1184 (by first | with_reducible assumption | omega) (by first | with_reducible assumption | omega) e1194 (by first | with_reducible assumption | omega) (by first | with_reducible assumption | omega) e1189 (by first | with_reducible assumption | omega) (by first | with_reducible assumption | omega) e1193 (by first | with_reducible assumption | omega) (by first | with_reducible assumption | omega) e1195 (by first | with_reducible assumption | omega) (by first | with_reducible assumption | omega) e1196 (by first | with_reducible assumption | omega) (by first | with_reducible assumption | omega) e1197 (by first | with_reducible assumption | omega) (by first | with_reducible assumption | omega) (by omega) (by omega) (by omega) (PX_p ti1210 (by omega)) pr1198 pr1199) (cqI ?_)
          rintro v1289 M1272 ⟨hP1273, hQ1274, h1290, h1291, h1276, h1277, h1278, h1279, h1280, h1281, h1282, h1283, h1284, h1285, xh1286, pr1287, pr1288⟩
          have hF1275 : Fr fm_m7166_6v5 M0 M1272 := hF1185.tr hQ1274 rfl
          obtain ⟨v1292, e1293⟩ : ∃ v, M1272 9 3 = v := ⟨_, rfl⟩
          have h1294 := (bf_9_3 hP1273).1; rw [e1293] at h1294
          have h1295 := (bf_9_3 hP1273).2; rw [e1293] at h1295
          obtain ⟨v1296, e1297⟩ : ∃ v, M1272 9 2 = v := ⟨_, rfl⟩
          have h1298 := (bf_9_2 hP1273).1; rw [e1297] at h1298
          have h1299 := (bf_9_2 hP1273).2; rw [e1297] at h1299
          obtain ⟨v1300, e1301⟩ : ∃ v, M1272 6 4 = v := ⟨_, rfl⟩
          have h1302 := (bf_6_4 hP1273).1; rw [e1301] at h1302
          have h1303 := (bf_6_4 hP1273).2; rw [e1301] at h1303
          obtain ⟨v1304, e1305⟩ : ∃ v, M1272 6 5 = v := ⟨_, rfl⟩
          have h1306 := (bf_6_5 hP1273).1; rw [e1305] at h1306
          have h1307 := (bf_6_5 hP1273).2; rw [e1305] at h1307
          refine wk_goto r166_58 ?_
          refine wk_is3 r166_66 rfl (wk_il3 r166_67 ?_)
          refine wk_ifeq r166_68 ⟨by omega, by omega⟩ ?_ ?_
          · intro h1308
            refine wk_c1 r166_90 ?_
            subst hQ; exact wk_zret r166_91 (by decide) (⟨rfl, _, rfl, hP1273, hF1275, by omega, by omega, by have := e1293; omega, by have := e1293; omega, by have := e1297; omega, by have := e1297; have := e1293; omega, by have := e1301; omega, by have := e1305; omega, by omega, by omega, by omega, by omega, Or.inr ⟨by omega, by rw [e1305, e1301]; exact F_k (or_r xh1286 (by omega)) (by omega) (by omega)⟩, pr1287, pr1288⟩)
          · intro h1309
            exfalso
            omega
      · intro h1310
        refine wk_al0 r166_35 (wk_c1 r166_36 (wk_cv2 r166_37 kc_6_159 rfl (m7159_6 _ M1183 2 v1186 hP1184 (by decide) (by decide) e1189 (by first | with_reducible assumption | omega) (by first | with_reducible assumption | omega)) (cqI ?_)))
        rintro v1319 M1311 ⟨hP1312, hQ1313, h1320, h1321, h1315, h1316, h1317, h1318⟩
        have hF1314 : Fr fm_m7166_6v5 M0 M1311 := hF1185.tr hQ1313 rfl
        obtain ⟨v1322, e1323⟩ : ∃ v, M1311 6 4 = v := ⟨_, rfl⟩
        have h1324 := (bf_6_4 hP1312).1; rw [e1323] at h1324
        have h1325 := (bf_6_4 hP1312).2; rw [e1323] at h1325
        obtain ⟨v1326, e1327⟩ : ∃ v, M1311 6 5 = v := ⟨_, rfl⟩
        have h1328 := (bf_6_5 hP1312).1; rw [e1327] at h1328
        have h1329 := (bf_6_5 hP1312).2; rw [e1327] at h1329
        subst hQ; exact wk_zret r166_40 ⟨by omega, by omega⟩ (⟨rfl, _, rfl, hP1312, hF1314, by omega, by omega, by have := ((hQ1313.at g_9_3 rfl).trans e1189); omega, by have := ((hQ1313.at g_9_3 rfl).trans e1189); omega, by have := ((hQ1313.at g_9_2 rfl).trans e1193); omega, by have := ((hQ1313.at g_9_2 rfl).trans e1193); have := ((hQ1313.at g_9_3 rfl).trans e1189); omega, by have := e1323; omega, by have := e1327; omega, by omega, by omega, by omega, by omega, Or.inr ⟨by omega, by rw [e1327, e1323]; exact O_6 ti1210 (by omega) (by omega) (by omega) (by omega)⟩, (TXP_sm (Sm.fr hQ1313 rfl) pr1198), (TCP_sm (Sm.fr hQ1313 rfl) pr1199)⟩)
    · intro h1330
      refine wk_al0 r166_8 (wk_c8 r166_9 (wk_cv2 r166_11 kc_6_175 rfl (m7175_6 _ M1183 4119 x9_1 v1186 v1190 T hP1184 (by decide) e1194 (by first | with_reducible assumption | omega) (by first | with_reducible assumption | omega) e1189 (by first | with_reducible assumption | omega) (by first | with_reducible assumption | omega) e1193 (by first | with_reducible assumption | omega) (by first | with_reducible assumption | omega) (by omega) (by omega) (by omega) (by first | assumption | omega | (unfold stepok; omega)) pr1198 pr1199) (cqI ?_)))
      rintro v1343 M1331 ⟨hP1332, hQ1333, h1344, h1345, h1335, h1336, h1337, h1338, h1339, xh1340, pr1341, pr1342⟩
      have hF1334 : Fr fm_m7166_6v5 M0 M1331 := hF1185.tr hQ1333 rfl
      obtain ⟨v1346, e1347⟩ : ∃ v, M1331 9 3 = v := ⟨_, rfl⟩
      have h1348 := (bf_9_3 hP1332).1; rw [e1347] at h1348
      have h1349 := (bf_9_3 hP1332).2; rw [e1347] at h1349
      obtain ⟨v1350, e1351⟩ : ∃ v, M1331 9 2 = v := ⟨_, rfl⟩
      have h1352 := (bf_9_2 hP1332).1; rw [e1351] at h1352
      have h1353 := (bf_9_2 hP1332).2; rw [e1351] at h1353
      rw [show wix 4119 = 14 from rfl] at xh1340
      refine wk_ifeq r166_14 ⟨by omega, by omega⟩ ?_ ?_
      · intro h1354
        obtain rfl : v1186 = v1346 := by omega
        obtain rfl : v1190 = v1350 := by omega
        refine wk_al0 r166_23 (wk_getfr r166_24 fd_6_0 (br_6_0 hP1332) (wk_c8 r166_27 (wk_cv2 r166_29 kc_9_239 rfl (m7239_9 _ M1331 4119 x9_1 v1186 T hP1332 (by decide) ((hQ1333.at g_9_1 rfl).trans e1194) (by first | with_reducible assumption | omega) (by first | with_reducible assumption | omega) e1347 (by first | with_reducible assumption | omega) (by first | with_reducible assumption | omega) (by first | assumption | omega | (unfold stepok; omega)) pr1341 pr1342) (cqI ?_))))
        rintro v1360 M1355 ⟨hP1356, hQ1357, h1361, h1362, xh1359⟩
        obtain rfl := Fr.same hQ1357
        rw [show wix 4119 = 14 from rfl] at xh1359
        refine wk_ifeq r166_32 ⟨by omega, by omega⟩ ?_ ?_
        · intro h1363
          refine wk_al0 r166_41 (wk_getfr r166_42 fd_6_0 (br_6_0 hP1332) (wk_c2 r166_45 (wk_cv2 r166_47 kc_9_238 rfl (m7238_9 _ M1331 40 x9_1 v1186 T hP1332 (by decide) (by decide) ((hQ1333.at g_9_1 rfl).trans e1194) (by first | with_reducible assumption | omega) (by first | with_reducible assumption | omega) e1347 (by first | with_reducible assumption | omega) (by first | with_reducible assumption | omega) pr1341 pr1342) (cqI ?_))))
          rintro v1369 M1364 ⟨hP1365, hQ1366, h1370, h1371, xh1368⟩
          obtain rfl := Fr.same hQ1366
          refine wk_ifeq r166_50 ⟨by omega, by omega⟩ ?_ ?_
          · intro h1372
            refine wk_al0 r166_61 (wk_il1 r166_62 ?_)
            refine wk_cv2 r166_63 kc_6_153 rfl (m7153_6v5 _ M1331 p1 x9_1 v1186 v1190 x6_4 x6_5 x6_3 T c0 v1180 hP1332 (by first | with_reducible assumption | omega) (by first | with_reducible assumption | omega) ((hQ1333.at g_9_1 rfl).trans e1194) (by first | with_reducible assumption | omega) (by first | with_reducible assumption | omega) e1347 (by first | with_reducible assumption | omega) (by first | with_reducible assumption | omega) e1351 (by first | with_reducible assumption | omega) (by first | with_reducible assumption | omega) ((hQ1333.at g_6_4 rfl).trans e1195) (by first | with_reducible assumption | omega) (by first | with_reducible assumption | omega) ((hQ1333.at g_6_5 rfl).trans e1196) (by first | with_reducible assumption | omega) (by first | with_reducible assumption | omega) ((hQ1333.at g_6_3 rfl).trans e1197) (by first | with_reducible assumption | omega) (by first | with_reducible assumption | omega) (by omega) (by omega) (by omega) (ti1210) (by omega) (by omega) pr1341 pr1342) (cqI ?_)
            rintro v1390 M1373 ⟨hP1374, hQ1375, h1391, h1392, h1377, h1378, h1379, h1380, h1381, h1382, h1383, h1384, h1385, h1386, xh1387, pr1388, pr1389⟩
            have hF1376 : Fr fm_m7166_6v5 M0 M1373 := hF1334.tr hQ1375 rfl
            obtain ⟨v1393, e1394⟩ : ∃ v, M1373 9 3 = v := ⟨_, rfl⟩
            have h1395 := (bf_9_3 hP1374).1; rw [e1394] at h1395
            have h1396 := (bf_9_3 hP1374).2; rw [e1394] at h1396
            obtain ⟨v1397, e1398⟩ : ∃ v, M1373 9 2 = v := ⟨_, rfl⟩
            have h1399 := (bf_9_2 hP1374).1; rw [e1398] at h1399
            have h1400 := (bf_9_2 hP1374).2; rw [e1398] at h1400
            obtain ⟨v1401, e1402⟩ : ∃ v, M1373 6 4 = v := ⟨_, rfl⟩
            have h1403 := (bf_6_4 hP1374).1; rw [e1402] at h1403
            have h1404 := (bf_6_4 hP1374).2; rw [e1402] at h1404
            obtain ⟨v1405, e1406⟩ : ∃ v, M1373 6 5 = v := ⟨_, rfl⟩
            have h1407 := (bf_6_5 hP1374).1; rw [e1406] at h1407
            have h1408 := (bf_6_5 hP1374).2; rw [e1406] at h1408
            refine wk_is3 r166_66 rfl (wk_il3 r166_67 ?_)
            refine wk_ifeq r166_68 ⟨by omega, by omega⟩ ?_ ?_
            · intro h1409
              refine wk_c1 r166_90 ?_
              subst hQ; exact wk_zret r166_91 (by decide) (⟨rfl, _, rfl, hP1374, hF1376, by omega, by omega, by have := e1394; omega, by have := e1394; omega, by have := e1398; omega, by have := e1398; have := e1394; omega, by have := e1402; omega, by have := e1406; omega, by omega, by omega, by omega, by omega, Or.inr ⟨by omega, by rw [e1406, e1402]; exact F_k (or_r xh1387 (by omega)) (by omega) (by omega)⟩, pr1388, pr1389⟩)
            · intro h1410
              refine wk_il2 r166_71 (wk_c1 r166_72 (wk_iandc 1 2 r166_73 ⟨rfl, by decide⟩ rfl ?_))
              refine wk_ifeq r166_74 ⟨by omega, by omega⟩ ?_ ?_
              · intro h1412
                refine wk_c1 r166_86 (wk_goto r166_87 ?_)
                subst hQ; exact wk_zret r166_91 (by decide) (⟨rfl, _, rfl, hP1374, hF1376, by omega, by omega, by have := e1394; omega, by have := e1394; omega, by have := e1398; omega, by have := e1398; have := e1394; omega, by have := e1402; omega, by have := e1406; omega, by have := e1402; omega, by have := e1402; omega, by have := e1406; omega, by have := e1406; omega, Or.inl ⟨by omega, by rw [e1394]; exact X_k (or_l xh1387 (by omega)) (by omega)⟩, pr1388, pr1389⟩)
              · intro h1413
                refine wk_al0 r166_77 (wk_c1 r166_78 (wk_c1 r166_79 (wk_cv3 r166_80 kc_6_172 rfl (m7172_6 _ M1373 1 0 hP1374 (by decide) (by decide) (by decide) (by decide) (by first | assumption | omega | (unfold stepok; omega))) (cqI ?_))))
                rintro v1418 M1414 ⟨hP1415, hQ1416, h1419, h1420⟩
                have hF1417 : Fr fm_m7166_6v5 M0 M1414 := hF1376.tr hQ1416 rfl
                refine wk_ifeq r166_83 ⟨by omega, by omega⟩ ?_ ?_
                · intro h1421
                  exfalso
                  omega
                · intro h1422
                  refine wk_c1 r166_86 (wk_goto r166_87 ?_)
                  subst hQ; exact wk_zret r166_91 (by decide) (⟨rfl, _, rfl, hP1415, hF1417, by omega, by omega, by have := ((hQ1416.at g_9_3 rfl).trans e1394); omega, by have := ((hQ1416.at g_9_3 rfl).trans e1394); omega, by have := ((hQ1416.at g_9_2 rfl).trans e1398); omega, by have := ((hQ1416.at g_9_2 rfl).trans e1398); have := ((hQ1416.at g_9_3 rfl).trans e1394); omega, by have := ((hQ1416.at g_6_4 rfl).trans e1402); omega, by have := ((hQ1416.at g_6_5 rfl).trans e1406); omega, by have := ((hQ1416.at g_6_4 rfl).trans e1402); omega, by have := ((hQ1416.at g_6_4 rfl).trans e1402); omega, by have := ((hQ1416.at g_6_5 rfl).trans e1406); omega, by have := ((hQ1416.at g_6_5 rfl).trans e1406); omega, Or.inl ⟨by omega, by rw [((hQ1416.at g_9_3 rfl).trans e1394)]; exact X_k (or_l xh1387 (by omega)) (by omega)⟩, (TXP_sm (Sm.fr hQ1416 rfl) pr1388), (TCP_sm (Sm.fr hQ1416 rfl) pr1389)⟩)
          · intro h1423
            refine wk_al0 r166_53 (wk_il1 r166_54 ?_)
            refine wk_cv2 r166_55 kc_6_168 rfl (m7168_6v5 _ M1331 p1 x9_1 v1186 v1190 x6_4 x6_5 x6_3 T c0 hP1332 (by first | with_reducible assumption | omega) (by first | with_reducible assumption | omega) ((hQ1333.at g_9_1 rfl).trans e1194) (by first | with_reducible assumption | omega) (by first | with_reducible assumption | omega) e1347 (by first | with_reducible assumption | omega) (by first | with_reducible assumption | omega) e1351 (by first | with_reducible assumption | omega) (by first | with_reducible assumption | omega) ((hQ1333.at g_6_4 rfl).trans e1195) (by first | with_reducible assumption | omega) (by first | with_reducible assumption | omega) ((hQ1333.at g_6_5 rfl).trans e1196) (by first | with_reducible assumption | omega) (by first | with_reducible assumption | omega) ((hQ1333.at g_6_3 rfl).trans e1197) (by first | with_reducible assumption | omega) (by first | with_reducible assumption | omega) (by omega) (by omega) (by omega) (PX_p ti1210 (by omega)) pr1341 pr1342) (cqI ?_)
            rintro v1441 M1424 ⟨hP1425, hQ1426, h1442, h1443, h1428, h1429, h1430, h1431, h1432, h1433, h1434, h1435, h1436, h1437, xh1438, pr1439, pr1440⟩
            have hF1427 : Fr fm_m7166_6v5 M0 M1424 := hF1334.tr hQ1426 rfl
            obtain ⟨v1444, e1445⟩ : ∃ v, M1424 9 3 = v := ⟨_, rfl⟩
            have h1446 := (bf_9_3 hP1425).1; rw [e1445] at h1446
            have h1447 := (bf_9_3 hP1425).2; rw [e1445] at h1447
            obtain ⟨v1448, e1449⟩ : ∃ v, M1424 9 2 = v := ⟨_, rfl⟩
            have h1450 := (bf_9_2 hP1425).1; rw [e1449] at h1450
            have h1451 := (bf_9_2 hP1425).2; rw [e1449] at h1451
            obtain ⟨v1452, e1453⟩ : ∃ v, M1424 6 4 = v := ⟨_, rfl⟩
            have h1454 := (bf_6_4 hP1425).1; rw [e1453] at h1454
            have h1455 := (bf_6_4 hP1425).2; rw [e1453] at h1455
            obtain ⟨v1456, e1457⟩ : ∃ v, M1424 6 5 = v := ⟨_, rfl⟩
            have h1458 := (bf_6_5 hP1425).1; rw [e1457] at h1458
            have h1459 := (bf_6_5 hP1425).2; rw [e1457] at h1459
            refine wk_goto r166_58 ?_
            refine wk_is3 r166_66 rfl (wk_il3 r166_67 ?_)
            refine wk_ifeq r166_68 ⟨by omega, by omega⟩ ?_ ?_
            · intro h1460
              refine wk_c1 r166_90 ?_
              subst hQ; exact wk_zret r166_91 (by decide) (⟨rfl, _, rfl, hP1425, hF1427, by omega, by omega, by have := e1445; omega, by have := e1445; omega, by have := e1449; omega, by have := e1449; have := e1445; omega, by have := e1453; omega, by have := e1457; omega, by omega, by omega, by omega, by omega, Or.inr ⟨by omega, by rw [e1457, e1453]; exact F_k (or_r xh1438 (by omega)) (by omega) (by omega)⟩, pr1439, pr1440⟩)
            · intro h1461
              exfalso
              omega
        · intro h1462
          refine wk_al0 r166_35 (wk_c1 r166_36 (wk_cv2 r166_37 kc_6_159 rfl (m7159_6 _ M1331 2 v1186 hP1332 (by decide) (by decide) e1347 (by first | with_reducible assumption | omega) (by first | with_reducible assumption | omega)) (cqI ?_)))
          rintro v1471 M1463 ⟨hP1464, hQ1465, h1472, h1473, h1467, h1468, h1469, h1470⟩
          have hF1466 : Fr fm_m7166_6v5 M0 M1463 := hF1334.tr hQ1465 rfl
          obtain ⟨v1474, e1475⟩ : ∃ v, M1463 6 4 = v := ⟨_, rfl⟩
          have h1476 := (bf_6_4 hP1464).1; rw [e1475] at h1476
          have h1477 := (bf_6_4 hP1464).2; rw [e1475] at h1477
          obtain ⟨v1478, e1479⟩ : ∃ v, M1463 6 5 = v := ⟨_, rfl⟩
          have h1480 := (bf_6_5 hP1464).1; rw [e1479] at h1480
          have h1481 := (bf_6_5 hP1464).2; rw [e1479] at h1481
          subst hQ; exact wk_zret r166_40 ⟨by omega, by omega⟩ (⟨rfl, _, rfl, hP1464, hF1466, by omega, by omega, by have := ((hQ1465.at g_9_3 rfl).trans e1347); omega, by have := ((hQ1465.at g_9_3 rfl).trans e1347); omega, by have := ((hQ1465.at g_9_2 rfl).trans e1351); omega, by have := ((hQ1465.at g_9_2 rfl).trans e1351); have := ((hQ1465.at g_9_3 rfl).trans e1347); omega, by have := e1475; omega, by have := e1479; omega, by omega, by omega, by omega, by omega, Or.inr ⟨by omega, by rw [e1479, e1475]; exact O_6 ti1210 (by omega) (by omega) (by omega) (by omega)⟩, (TXP_sm (Sm.fr hQ1465 rfl) pr1341), (TCP_sm (Sm.fr hQ1465 rfl) pr1342)⟩)
      · intro h1482
        refine wk_inc2 r166_17 rfl (wk_goto r166_20 ?_)
        exact wp_fg (le_s (le_s (le_s (le_s le_0)))) (ih1483 (6 - (v1180 + 1)).toNat (by omega) M1331 (v1180 + 1) v1346 v1350 rfl hP1332 hF1334 e1347 e1351 ((hQ1333.at g_9_1 rfl).trans e1194) ((hQ1333.at g_6_4 rfl).trans e1195) ((hQ1333.at g_6_5 rfl).trans e1196) ((hQ1333.at g_6_3 rfl).trans e1197) (by first | with_reducible assumption | omega) (by first | with_reducible assumption | omega) (by first | with_reducible assumption | omega) (by first | with_reducible assumption | omega) (by first | with_reducible assumption | omega) (by first | with_reducible assumption | omega) pr1341 pr1342 (by first | with_reducible assumption | omega) (by first | with_reducible assumption | omega) (by first | with_reducible assumption | omega) (by first | with_reducible assumption | omega) (by first | with_reducible assumption | omega) (by first | with_reducible assumption | omega) (by first | with_reducible assumption | omega) (by first | with_reducible assumption | omega) (by first | with_reducible assumption | omega) (by first | with_reducible assumption | omega) (O_n ti1210 (by omega) (by omega) (by omega) (by omega)))
  exact wp_fg (le_s (le_s (le_s (le_s le_0)))) (c2_1483 _ M0 0 x9_3 x9_2 rfl hP0 hF0 ex9_3 ex9_2 ex9_1 ex6_4 ex6_5 ex6_3 (by first | with_reducible assumption | omega) (by first | with_reducible assumption | omega) (by first | with_reducible assumption | omega) (by first | with_reducible assumption | omega) (by first | with_reducible assumption | omega) (by first | with_reducible assumption | omega) pp_TX pp_TC (by first | with_reducible assumption | omega) (by first | with_reducible assumption | omega) (by first | with_reducible assumption | omega) (by first | with_reducible assumption | omega) (by first | with_reducible assumption | omega) (by first | with_reducible assumption | omega) (by first | with_reducible assumption | omega) (by first | with_reducible assumption | omega) (by first | with_reducible assumption | omega) (by first | with_reducible assumption | omega) (xp0))
