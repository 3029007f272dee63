def fm_n7158_6E : Nat := 3941070043873280
def fm_n7243 : Nat := 0
/-- IslandHall$Tokens.typeOf -/
theorem n7243 {B : eB} (d : Nat) (M0 : Mm) (p0 : Int) (hP0 : Pw M0) (l0 : (-128) ≤ p0) (u0 : p0 ≤ 127) : Ct B (d + 1) 243 [I p0] M0 (qI fun z M => Pw M ∧ Fr fm_n7243 M0 M ∧ 1 ≤ z ∧ z ≤ 4 ∧ (z = tyF p0)) := by
  refine ct_of (d := d + 0) (k := 1) (L := [some (I p0), none]) rfl rfl rfl ?_
  have hF0 := Fr.rf fm_n7243 M0
  generalize hQ : (qI fun z M => Pw M ∧ Fr fm_n7243 M0 M ∧ 1 ≤ z ∧ z ≤ 4 ∧ (z = tyF p0)) = Q
  refine wk_il0 r243_0 (wk_c2 r243_1 ?_)
  refine wk_iclt r243_3 ⟨by omega, by omega⟩ (by decide) ?_ ?_
  · intro h1
    refine wk_il0 r243_14 (wk_c2 r243_15 ?_)
    refine wk_iclt r243_17 ⟨by omega, by omega⟩ (by decide) ?_ ?_
    · intro h2
      refine wk_il0 r243_28 (wk_c2 r243_29 ?_)
      refine wk_iceq r243_31 ⟨by omega, by omega⟩ (by decide) ?_ ?_
      · intro h3
        exfalso
        omega
      · intro h4
        refine wk_il0 r243_34 (wk_c2 r243_35 ?_)
        refine wk_iceq r243_37 ⟨by omega, by omega⟩ (by decide) ?_ ?_
        · intro h5
          refine wk_c1 r243_64 (wk_goto r243_65 (wk_is1 r243_69 rfl (wk_il1 r243_70 ?_)))
          refine wk_ifeq r243_71 (by decide) ?_ ?_
          · intro h6
            exfalso
            omega
          · intro h7
            refine wk_c1 r243_74 (wk_goto r243_75 ?_)
            subst hQ; exact wk_iret r243_79 (⟨rfl, _, rfl, hP0, hF0, by omega, by omega, (tyF_3.mpr (by omega)).symm⟩)
        · intro h8
          refine wk_il0 r243_40 (wk_c2 r243_41 ?_)
          refine wk_iceq r243_43 ⟨by omega, by omega⟩ (by decide) ?_ ?_
          · intro h9
            refine wk_c1 r243_64 (wk_goto r243_65 (wk_is1 r243_69 rfl (wk_il1 r243_70 ?_)))
            refine wk_ifeq r243_71 (by decide) ?_ ?_
            · intro h10
              exfalso
              omega
            · intro h11
              refine wk_c1 r243_74 (wk_goto r243_75 ?_)
              subst hQ; exact wk_iret r243_79 (⟨rfl, _, rfl, hP0, hF0, by omega, by omega, (tyF_3.mpr (by omega)).symm⟩)
          · intro h12
            refine wk_il0 r243_46 (wk_c2 r243_47 ?_)
            refine wk_iceq r243_49 ⟨by omega, by omega⟩ (by decide) ?_ ?_
            · intro h13
              exfalso
              omega
            · intro h14
              refine wk_il0 r243_52 (wk_c2 r243_53 ?_)
              refine wk_iceq r243_55 ⟨by omega, by omega⟩ (by decide) ?_ ?_
              · intro h15
                exfalso
                omega
              · intro h16
                refine wk_il0 r243_58 (wk_c2 r243_59 ?_)
                refine wk_icne r243_61 ⟨by omega, by omega⟩ (by decide) ?_ ?_
                · intro h17
                  refine wk_c1 r243_68 (wk_is1 r243_69 rfl (wk_il1 r243_70 ?_))
                  refine wk_ifeq r243_71 (by decide) ?_ ?_
                  · intro h18
                    refine wk_c1 r243_78 ?_
                    subst hQ; exact wk_iret r243_79 (⟨rfl, _, rfl, hP0, hF0, by omega, by omega, (tyF_4.mpr (by omega)).symm⟩)
                  · intro h19
                    exfalso
                    omega
                · intro h20
                  exfalso
                  omega
    · intro h21
      refine wk_il0 r243_20 (wk_c2 r243_21 ?_)
      refine wk_icgt r243_23 ⟨by omega, by omega⟩ (by decide) ?_ ?_
      · intro h22
        refine wk_il0 r243_28 (wk_c2 r243_29 ?_)
        refine wk_iceq r243_31 ⟨by omega, by omega⟩ (by decide) ?_ ?_
        · intro h23
          refine wk_c1 r243_64 (wk_goto r243_65 (wk_is1 r243_69 rfl (wk_il1 r243_70 ?_)))
          refine wk_ifeq r243_71 (by decide) ?_ ?_
          · intro h24
            exfalso
            omega
          · intro h25
            refine wk_c1 r243_74 (wk_goto r243_75 ?_)
            subst hQ; exact wk_iret r243_79 (⟨rfl, _, rfl, hP0, hF0, by omega, by omega, (tyF_3.mpr (by omega)).symm⟩)
        · intro h26
          refine wk_il0 r243_34 (wk_c2 r243_35 ?_)
          refine wk_iceq r243_37 ⟨by omega, by omega⟩ (by decide) ?_ ?_
          · intro h27
            exfalso
            omega
          · intro h28
            refine wk_il0 r243_40 (wk_c2 r243_41 ?_)
            refine wk_iceq r243_43 ⟨by omega, by omega⟩ (by decide) ?_ ?_
            · intro h29
              exfalso
              omega
            · intro h30
              refine wk_il0 r243_46 (wk_c2 r243_47 ?_)
              refine wk_iceq r243_49 ⟨by omega, by omega⟩ (by decide) ?_ ?_
              · intro h31
                refine wk_c1 r243_64 (wk_goto r243_65 (wk_is1 r243_69 rfl (wk_il1 r243_70 ?_)))
                refine wk_ifeq r243_71 (by decide) ?_ ?_
                · intro h32
                  exfalso
                  omega
                · intro h33
                  refine wk_c1 r243_74 (wk_goto r243_75 ?_)
                  subst hQ; exact wk_iret r243_79 (⟨rfl, _, rfl, hP0, hF0, by omega, by omega, (tyF_3.mpr (by omega)).symm⟩)
              · intro h34
                refine wk_il0 r243_52 (wk_c2 r243_53 ?_)
                refine wk_iceq r243_55 ⟨by omega, by omega⟩ (by decide) ?_ ?_
                · intro h35
                  refine wk_c1 r243_64 (wk_goto r243_65 (wk_is1 r243_69 rfl (wk_il1 r243_70 ?_)))
                  refine wk_ifeq r243_71 (by decide) ?_ ?_
                  · intro h36
                    exfalso
                    omega
                  · intro h37
                    refine wk_c1 r243_74 (wk_goto r243_75 ?_)
                    subst hQ; exact wk_iret r243_79 (⟨rfl, _, rfl, hP0, hF0, by omega, by omega, (tyF_3.mpr (by omega)).symm⟩)
                · intro h38
                  refine wk_il0 r243_58 (wk_c2 r243_59 ?_)
                  refine wk_icne r243_61 ⟨by omega, by omega⟩ (by decide) ?_ ?_
                  · intro h39
                    refine wk_c1 r243_68 (wk_is1 r243_69 rfl (wk_il1 r243_70 ?_))
                    refine wk_ifeq r243_71 (by decide) ?_ ?_
                    · intro h40
                      refine wk_c1 r243_78 ?_
                      subst hQ; exact wk_iret r243_79 (⟨rfl, _, rfl, hP0, hF0, by omega, by omega, (tyF_4.mpr (by omega)).symm⟩)
                    · intro h41
                      exfalso
                      omega
                  · intro h42
                    refine wk_c1 r243_64 (wk_goto r243_65 (wk_is1 r243_69 rfl (wk_il1 r243_70 ?_)))
                    refine wk_ifeq r243_71 (by decide) ?_ ?_
                    · intro h43
                      exfalso
                      omega
                    · intro h44
                      refine wk_c1 r243_74 (wk_goto r243_75 ?_)
                      subst hQ; exact wk_iret r243_79 (⟨rfl, _, rfl, hP0, hF0, by omega, by omega, (tyF_3.mpr (by omega)).symm⟩)
      · intro h45
        refine wk_c1 r243_26 ?_
        subst hQ; exact wk_iret r243_27 (⟨rfl, _, rfl, hP0, hF0, by omega, by omega, (tyF_2.mpr (by omega)).symm⟩)
  · intro h46
    refine wk_il0 r243_6 (wk_c2 r243_7 ?_)
    refine wk_icgt r243_9 ⟨by omega, by omega⟩ (by decide) ?_ ?_
    · intro h47
      refine wk_il0 r243_14 (wk_c2 r243_15 ?_)
      refine wk_iclt r243_17 ⟨by omega, by omega⟩ (by decide) ?_ ?_
      · intro h48
        exfalso
        omega
      · intro h49
        refine wk_il0 r243_20 (wk_c2 r243_21 ?_)
        refine wk_icgt r243_23 ⟨by omega, by omega⟩ (by decide) ?_ ?_
        · intro h50
          refine wk_il0 r243_28 (wk_c2 r243_29 ?_)
          refine wk_iceq r243_31 ⟨by omega, by omega⟩ (by decide) ?_ ?_
          · intro h51
            exfalso
            omega
          · intro h52
            refine wk_il0 r243_34 (wk_c2 r243_35 ?_)
            refine wk_iceq r243_37 ⟨by omega, by omega⟩ (by decide) ?_ ?_
            · intro h53
              exfalso
              omega
            · intro h54
              refine wk_il0 r243_40 (wk_c2 r243_41 ?_)
              refine wk_iceq r243_43 ⟨by omega, by omega⟩ (by decide) ?_ ?_
              · intro h55
                exfalso
                omega
              · intro h56
                refine wk_il0 r243_46 (wk_c2 r243_47 ?_)
                refine wk_iceq r243_49 ⟨by omega, by omega⟩ (by decide) ?_ ?_
                · intro h57
                  exfalso
                  omega
                · intro h58
                  refine wk_il0 r243_52 (wk_c2 r243_53 ?_)
                  refine wk_iceq r243_55 ⟨by omega, by omega⟩ (by decide) ?_ ?_
                  · intro h59
                    exfalso
                    omega
                  · intro h60
                    refine wk_il0 r243_58 (wk_c2 r243_59 ?_)
                    refine wk_icne r243_61 ⟨by omega, by omega⟩ (by decide) ?_ ?_
                    · intro h61
                      refine wk_c1 r243_68 (wk_is1 r243_69 rfl (wk_il1 r243_70 ?_))
                      refine wk_ifeq r243_71 (by decide) ?_ ?_
                      · intro h62
                        refine wk_c1 r243_78 ?_
                        subst hQ; exact wk_iret r243_79 (⟨rfl, _, rfl, hP0, hF0, by omega, by omega, (tyF_4.mpr (by omega)).symm⟩)
                      · intro h63
                        exfalso
                        omega
                    · intro h64
                      exfalso
                      omega
        · intro h65
          exfalso
          omega
    · intro h66
      refine wk_c1 r243_12 ?_
      subst hQ; exact wk_iret r243_13 (⟨rfl, _, rfl, hP0, hF0, by omega, by omega, (tyF_1.mpr (by omega)).symm⟩)
def fm_n7241_9 : Nat := 3940649673949184
set_option maxHeartbeats 20000000 in
/-- IslandHall$Tokens.next -/
theorem n7241_9 {B : eB} (d : Nat) (M0 : Mm) (x9_1 : Int) (x9_2 : Int) (T : Int → Int) (hP0 : Pw M0) (ex9_1 : M0 9 1 = x9_1) (lx9_1 : 0 ≤ x9_1) (ux9_1 : x9_1 ≤ 500) (ex9_2 : M0 9 2 = x9_2) (lx9_2 : 0 ≤ x9_2) (ux9_2 : x9_2 ≤ 500) (rp0 : 0 ≤ x9_1 + (-1) * x9_2) (pp_TX : TXP T M0) : Ct B (d + 2) 241 [R 9] M0 (qV fun M => Pw M ∧ Fr fm_n7241_9 M0 M ∧ 0 ≤ M 9 3 + (-1) * x9_2 ∧ 0 ≤ x9_1 + (-1) * (M 9 3) ∧ 0 ≤ x9_1 + (-1) * (M 9 2) ∧ 0 ≤ M 9 2 + (-1) * (M 9 3) ∧ (M 9 3 = sk T x9_1 x9_2) ∧ (TXP T M) ∧ (TCP T M)) := by
  refine ct_of (d := d + 1) (k := 1) (L := [some (R 9), none]) rfl rfl rfl ?_
  have hF0 := Fr.rf fm_n7241_9 M0
  generalize hQ : (qV fun M => Pw M ∧ Fr fm_n7241_9 M0 M ∧ 0 ≤ M 9 3 + (-1) * x9_2 ∧ 0 ≤ x9_1 + (-1) * (M 9 3) ∧ 0 ≤ x9_1 + (-1) * (M 9 2) ∧ 0 ≤ M 9 2 + (-1) * (M 9 3) ∧ (M 9 3 = sk T x9_1 x9_2) ∧ (TXP T M) ∧ (TCP T M)) = Q
  refine wk_al0 r241_0 (wk_al0 r241_1 (wk_getfi r241_2 fd_9_2 ex9_2 (wk_putfi81 r241_5 fd_9_3 (wk_nw g_9_3 rfl hP0 hF0 (uf_9_3 ⟨by omega, by omega⟩) ?_))))
  intro M1 hP2 hF3 e4
  have c8_361 : ∀ (k361 : Nat) (M196 : Mm) (v199 : Int), (500 - v199).toNat = k361 → Pw M196 → Fr fm_n7241_9 M0 M196 → M196 9 3 = v199 → M196 9 1 = x9_1 → M196 9 2 = x9_2 → 0 ≤ v199 → v199 ≤ 500 → (TXP T M196) → 0 ≤ 1 * v199 + (-1) * x9_2 → 0 ≤ 1 * x9_1 + (-1) * v199 → 0 ≤ 1 * x9_1 + (-1) * x9_2 → (sk T x9_1 v199 = sk T x9_1 x9_2) → Wp B (d + 1) 241 8 [some (R 9), none] [] M196 Q := by
    refine lp_ind ?_
    intro k361 ih361 M196 v199 hk361 hP197 hF198 e202 e203 e204 h200 h201 pr205 h206 h207 h208 ti209
    refine wk_al0 r241_8 (wk_getfi r241_9 fd_9_3 e202 (wk_al0 r241_12 (wk_getfi r241_13 fd_9_1 e203 ?_)))
    have c60_360 : (v199 = sk T x9_1 x9_2) → Wp B (d + 1) 241 60 [some (R 9), none] [] M196 Q := by
      intro ti228
      refine wk_al0 r241_60 (wk_getfi r241_61 fd_9_3 e202 (wk_al0 r241_64 (wk_getfi r241_65 fd_9_1 e203 ?_)))
      refine wk_iclt r241_68 ⟨by omega, by omega⟩ ⟨by omega, by omega⟩ ?_ ?_
      · intro h229
        refine wk_al0 r241_85 (wk_al0 r241_86 (wk_getfr r241_87 fd_9_0 (br_9_0 hP197) (wk_al0 r241_90 (wk_getfi r241_91 fd_9_3 e202 (wk_baldb r241_94 ar_1 ⟨by omega, by omega⟩ (fun q0 q1 => ba_1 hP197 q0 q1) ?_)))))
        intro v230 h232 h233 e231
        refine wk_cs102_1 r241_95 rfl (n7243 _ M196 v230 hP197 (by first | with_reducible assumption | omega) (by first | with_reducible assumption | omega)) (cqI ?_)
        rintro v239 M234 ⟨hP235, hQ236, h240, h241, xh238⟩
        obtain rfl := Fr.same hQ236
        refine wk_putfi81 r241_98 fd_9_4 (wk_nw g_9_4 rfl hP197 hF198 (uf_9_4 ⟨by omega, by omega⟩) ?_)
        intro M242 hP243 hF244 e245
        have hty : v239 = tyF (T v199) := xh238.trans (tyF_T (by have q9 := pr205 v199 (by omega) (by rw [e203]; omega); rw [e231] at q9; exact q9) (by omega))
        refine wk_al0 r241_101 (wk_al0 r241_102 (wk_getfi r241_103 fd_9_3 (mUp_no e245 e202 (Or.inr (by decide))) (wk_c1 r241_106 (wk_iadd r241_107 (wk_putfi81 r241_108 fd_9_2 (wk_nw g_9_2 rfl hP243 hF244 (uf_9_2 ⟨by omega, by omega⟩) ?_))))))
        intro M246 hP247 hF248 e249
        refine wk_al0 r241_111 (wk_getfi r241_112 fd_9_4 (mUp_no e249 (mUp_at e245) (Or.inr (by decide))) (wk_c1 r241_115 ?_))
        refine wk_iceq r241_116 ⟨by omega, by omega⟩ (by decide) ?_ ?_
        · intro h250
          refine wk_c1 r241_127 (wk_goto r241_128 (wk_is1 r241_132 rfl ?_))
          have c133_289 : ∀ (k289 : Nat) (M251 : Mm) (v254 : Int), (500 - v254).toNat = k289 → Pw M251 → Fr fm_n7241_9 M0 M251 → M251 9 2 = v254 → M251 9 3 = v199 → M251 9 1 = x9_1 → M251 9 4 = v239 → 1 ≤ v254 → v254 ≤ 500 → (TXP T M251) → 0 ≤ 1 * v199 + (-1) * x9_2 → 0 ≤ 1 * x9_1 + (-1) * v199 → 0 ≤ 1 * v254 + (-1) * v199 + (-1) → 0 ≤ 1 * x9_1 + (-1) * v254 → ((1 = 1 ↔ v239 = 1 ∨ v239 = 2) ∧ (1 = 1 → en T x9_1 v239 v254 = en T x9_1 v239 (v199 + 1)) ∧ (1 = 0 → v254 = v199 + 1)) → Wp B (d + 1) 241 133 [some (R 9), some (I 1)] [] M251 Q := by
            refine lp_ind ?_
            intro k289 ih289 M251 v254 hk289 hP252 hF253 e257 e258 e259 e260 h255 h256 pr261 h262 h263 h264 h265 ti266
            refine wk_il1 r241_133 ?_
            refine wk_ifeq r241_134 (by decide) ?_ ?_
            · intro h267
              exfalso
              omega
            · intro h268
              refine wk_al0 r241_137 (wk_getfi r241_138 fd_9_2 e257 (wk_al0 r241_141 (wk_getfi r241_142 fd_9_1 e259 ?_)))
              refine wk_icge r241_145 ⟨by omega, by omega⟩ ⟨by omega, by omega⟩ ?_ ?_
              · intro h269
                subst hQ; exact wk_ret r241_180 (⟨rfl, hP252, hF253, by have := e258; omega, by have := e258; omega, by have := e257; omega, by have := e257; have := e258; omega, e258.trans ti228, pr261, TCP_1 e259 e258 e260 e257 ti228 (by omega) (by omega) (by omega) hty (by by_cases q9 : v239 = 1 ∨ v239 = 2; (exact Or.inr ⟨q9, by first | exact (en_e (by omega)).symm.trans ((ti266).2.1 (by omega)) | (have := (ti266).1; omega)⟩); (exact Or.inl ⟨q9, (ti266).2.2 (by have := (ti266).1; omega)⟩))⟩)
              · intro h270
                refine wk_al0 r241_148 (wk_getfr r241_149 fd_9_0 (br_9_0 hP252) (wk_al0 r241_152 (wk_getfi r241_153 fd_9_2 e257 (wk_baldb r241_156 ar_1 ⟨by omega, by omega⟩ (fun q0 q1 => ba_1 hP252 q0 q1) ?_))))
                intro v271 h273 h274 e272
                refine wk_cs102_1 r241_157 rfl (n7243 _ M251 v271 hP252 (by first | with_reducible assumption | omega) (by first | with_reducible assumption | omega)) (cqI ?_)
                rintro v280 M275 ⟨hP276, hQ277, h281, h282, xh279⟩
                obtain rfl := Fr.same hQ277
                refine wk_al0 r241_160 (wk_getfi r241_161 fd_9_4 e260 ?_)
                refine wk_icne r241_164 ⟨by omega, by omega⟩ ⟨by omega, by omega⟩ ?_ ?_
                · intro h283
                  subst hQ; exact wk_ret r241_180 (⟨rfl, hP252, hF253, by have := e258; omega, by have := e258; omega, by have := e257; omega, by have := e257; have := e258; omega, e258.trans ti228, pr261, TCP_1 e259 e258 e260 e257 ti228 (by omega) (by omega) (by omega) hty (by by_cases q9 : v239 = 1 ∨ v239 = 2; (exact Or.inr ⟨q9, by first | exact (en_n (by omega) (by rw [← tyF_T (by have q8 := pr261 v254 (by omega) (by rw [e259]; omega); rw [e272] at q8; exact q8) (by omega), ← xh279]; omega)).symm.trans ((ti266).2.1 (by omega)) | (have := (ti266).1; omega)⟩); (exact Or.inl ⟨q9, (ti266).2.2 (by have := (ti266).1; omega)⟩))⟩)
                · intro h284
                  refine wk_al0 r241_167 (wk_dupr r241_168 (wk_getfi r241_169 fd_9_2 e257 (wk_c1 r241_172 (wk_iadd r241_173 (wk_putfi81 r241_174 fd_9_2 (wk_nw g_9_2 rfl hP252 hF253 (uf_9_2 ⟨by omega, by omega⟩) ?_))))))
                  intro M285 hP286 hF287 e288
                  refine wk_goto r241_177 ?_
                  exact wp_fg (le_s (le_s le_0)) (ih289 (500 - (v254 + 1)).toNat (by omega) M285 (v254 + 1) rfl hP286 hF287 (mUp_at e288) (mUp_no e288 e258 (Or.inr (by decide))) (mUp_no e288 e259 (Or.inr (by decide))) (mUp_no e288 e260 (Or.inr (by decide))) (by first | with_reducible assumption | omega) (by first | with_reducible assumption | omega) (TXP_sm (Sm.up e288 g_9_2 rfl) pr261) (by first | with_reducible assumption | omega) (by first | with_reducible assumption | omega) (by first | with_reducible assumption | omega) (by first | with_reducible assumption | omega) (⟨by have := (ti266).1; omega, fun q9 => (en_b (by omega) (by rw [← tyF_T (by have q8 := pr261 v254 (by omega) (by rw [e259]; omega); rw [e272] at q8; exact q8) (by omega), ← xh279]; omega)).trans ((ti266).2.1 q9), fun q9 => by omega⟩))
          exact wp_fg (le_s (le_s le_0)) (c133_289 _ M246 (v199 + 1) rfl hP247 hF248 (mUp_at e249) (mUp_no e249 (mUp_no e245 e202 (Or.inr (by decide))) (Or.inr (by decide))) (mUp_no e249 (mUp_no e245 e203 (Or.inr (by decide))) (Or.inr (by decide))) (mUp_no e249 (mUp_at e245) (Or.inr (by decide))) (by first | with_reducible assumption | omega) (by first | with_reducible assumption | omega) (TXP_sm (Sm.up e249 g_9_2 rfl) (TXP_sm (Sm.up e245 g_9_4 rfl) pr205)) (by first | with_reducible assumption | omega) (by first | with_reducible assumption | omega) (by first | with_reducible assumption | omega) (by first | with_reducible assumption | omega) (⟨by omega, fun q9 => rfl, fun q9 => rfl⟩))
        · intro h290
          refine wk_al0 r241_119 (wk_getfi r241_120 fd_9_4 (mUp_no e249 (mUp_at e245) (Or.inr (by decide))) (wk_c1 r241_123 ?_))
          refine wk_icne r241_124 ⟨by omega, by omega⟩ (by decide) ?_ ?_
          · intro h291
            refine wk_c1 r241_131 (wk_is1 r241_132 rfl ?_)
            have c133_310 : ∀ (k310 : Nat) (M292 : Mm) (v295 : Int), ((0 : Int)).toNat = k310 → Pw M292 → Fr fm_n7241_9 M0 M292 → M292 9 2 = v295 → M292 9 3 = v199 → M292 9 1 = x9_1 → M292 9 4 = v239 → 1 ≤ v295 → v295 ≤ 500 → (TXP T M292) → 0 ≤ 1 * v199 + (-1) * x9_2 → 0 ≤ 1 * x9_1 + (-1) * v199 → 0 ≤ 1 * v295 + (-1) * v199 + (-1) → 0 ≤ 1 * x9_1 + (-1) * v295 → ((0 = 1 ↔ v239 = 1 ∨ v239 = 2) ∧ (0 = 1 → en T x9_1 v239 v295 = en T x9_1 v239 (v199 + 1)) ∧ (0 = 0 → v295 = v199 + 1)) → Wp B (d + 1) 241 133 [some (R 9), some (I 0)] [] M292 Q := by
              refine lp_ind ?_
              intro k310 ih310 M292 v295 hk310 hP293 hF294 e298 e299 e300 e301 h296 h297 pr302 h303 h304 h305 h306 ti307
              refine wk_il1 r241_133 ?_
              refine wk_ifeq r241_134 (by decide) ?_ ?_
              · intro h308
                subst hQ; exact wk_ret r241_180 (⟨rfl, hP293, hF294, by have := e299; omega, by have := e299; omega, by have := e298; omega, by have := e298; have := e299; omega, e299.trans ti228, pr302, TCP_1 e300 e299 e301 e298 ti228 (by omega) (by omega) (by omega) hty (by by_cases q9 : v239 = 1 ∨ v239 = 2; (exact Or.inr ⟨q9, by first | exact (en_e (by omega)).symm.trans ((ti307).2.1 (by omega)) | (have := (ti307).1; omega)⟩); (exact Or.inl ⟨q9, (ti307).2.2 (by have := (ti307).1; omega)⟩))⟩)
              · intro h309
                exfalso
                omega
            exact wp_fg (le_s (le_s le_0)) (c133_310 _ M246 (v199 + 1) rfl hP247 hF248 (mUp_at e249) (mUp_no e249 (mUp_no e245 e202 (Or.inr (by decide))) (Or.inr (by decide))) (mUp_no e249 (mUp_no e245 e203 (Or.inr (by decide))) (Or.inr (by decide))) (mUp_no e249 (mUp_at e245) (Or.inr (by decide))) (by first | with_reducible assumption | omega) (by first | with_reducible assumption | omega) (TXP_sm (Sm.up e249 g_9_2 rfl) (TXP_sm (Sm.up e245 g_9_4 rfl) pr205)) (by first | with_reducible assumption | omega) (by first | with_reducible assumption | omega) (by first | with_reducible assumption | omega) (by first | with_reducible assumption | omega) (⟨by omega, fun q9 => rfl, fun q9 => rfl⟩))
          · intro h311
            refine wk_c1 r241_127 (wk_goto r241_128 (wk_is1 r241_132 rfl ?_))
            have c133_350 : ∀ (k350 : Nat) (M312 : Mm) (v315 : Int), (500 - v315).toNat = k350 → Pw M312 → Fr fm_n7241_9 M0 M312 → M312 9 2 = v315 → M312 9 3 = v199 → M312 9 1 = x9_1 → M312 9 4 = v239 → 1 ≤ v315 → v315 ≤ 500 → (TXP T M312) → 0 ≤ 1 * v199 + (-1) * x9_2 → 0 ≤ 1 * x9_1 + (-1) * v199 → 0 ≤ 1 * v315 + (-1) * v199 + (-1) → 0 ≤ 1 * x9_1 + (-1) * v315 → ((1 = 1 ↔ v239 = 1 ∨ v239 = 2) ∧ (1 = 1 → en T x9_1 v239 v315 = en T x9_1 v239 (v199 + 1)) ∧ (1 = 0 → v315 = v199 + 1)) → Wp B (d + 1) 241 133 [some (R 9), some (I 1)] [] M312 Q := by
              refine lp_ind ?_
              intro k350 ih350 M312 v315 hk350 hP313 hF314 e318 e319 e320 e321 h316 h317 pr322 h323 h324 h325 h326 ti327
              refine wk_il1 r241_133 ?_
              refine wk_ifeq r241_134 (by decide) ?_ ?_
              · intro h328
                exfalso
                omega
              · intro h329
                refine wk_al0 r241_137 (wk_getfi r241_138 fd_9_2 e318 (wk_al0 r241_141 (wk_getfi r241_142 fd_9_1 e320 ?_)))
                refine wk_icge r241_145 ⟨by omega, by omega⟩ ⟨by omega, by omega⟩ ?_ ?_
                · intro h330
                  subst hQ; exact wk_ret r241_180 (⟨rfl, hP313, hF314, by have := e319; omega, by have := e319; omega, by have := e318; omega, by have := e318; have := e319; omega, e319.trans ti228, pr322, TCP_1 e320 e319 e321 e318 ti228 (by omega) (by omega) (by omega) hty (by by_cases q9 : v239 = 1 ∨ v239 = 2; (exact Or.inr ⟨q9, by first | exact (en_e (by omega)).symm.trans ((ti327).2.1 (by omega)) | (have := (ti327).1; omega)⟩); (exact Or.inl ⟨q9, (ti327).2.2 (by have := (ti327).1; omega)⟩))⟩)
                · intro h331
                  refine wk_al0 r241_148 (wk_getfr r241_149 fd_9_0 (br_9_0 hP313) (wk_al0 r241_152 (wk_getfi r241_153 fd_9_2 e318 (wk_baldb r241_156 ar_1 ⟨by omega, by omega⟩ (fun q0 q1 => ba_1 hP313 q0 q1) ?_))))
                  intro v332 h334 h335 e333
                  refine wk_cs102_1 r241_157 rfl (n7243 _ M312 v332 hP313 (by first | with_reducible assumption | omega) (by first | with_reducible assumption | omega)) (cqI ?_)
                  rintro v341 M336 ⟨hP337, hQ338, h342, h343, xh340⟩
                  obtain rfl := Fr.same hQ338
                  refine wk_al0 r241_160 (wk_getfi r241_161 fd_9_4 e321 ?_)
                  refine wk_icne r241_164 ⟨by omega, by omega⟩ ⟨by omega, by omega⟩ ?_ ?_
                  · intro h344
                    subst hQ; exact wk_ret r241_180 (⟨rfl, hP313, hF314, by have := e319; omega, by have := e319; omega, by have := e318; omega, by have := e318; have := e319; omega, e319.trans ti228, pr322, TCP_1 e320 e319 e321 e318 ti228 (by omega) (by omega) (by omega) hty (by by_cases q9 : v239 = 1 ∨ v239 = 2; (exact Or.inr ⟨q9, by first | exact (en_n (by omega) (by rw [← tyF_T (by have q8 := pr322 v315 (by omega) (by rw [e320]; omega); rw [e333] at q8; exact q8) (by omega), ← xh340]; omega)).symm.trans ((ti327).2.1 (by omega)) | (have := (ti327).1; omega)⟩); (exact Or.inl ⟨q9, (ti327).2.2 (by have := (ti327).1; omega)⟩))⟩)
                  · intro h345
                    refine wk_al0 r241_167 (wk_dupr r241_168 (wk_getfi r241_169 fd_9_2 e318 (wk_c1 r241_172 (wk_iadd r241_173 (wk_putfi81 r241_174 fd_9_2 (wk_nw g_9_2 rfl hP313 hF314 (uf_9_2 ⟨by omega, by omega⟩) ?_))))))
                    intro M346 hP347 hF348 e349
                    refine wk_goto r241_177 ?_
                    exact wp_fg (le_s (le_s le_0)) (ih350 (500 - (v315 + 1)).toNat (by omega) M346 (v315 + 1) rfl hP347 hF348 (mUp_at e349) (mUp_no e349 e319 (Or.inr (by decide))) (mUp_no e349 e320 (Or.inr (by decide))) (mUp_no e349 e321 (Or.inr (by decide))) (by first | with_reducible assumption | omega) (by first | with_reducible assumption | omega) (TXP_sm (Sm.up e349 g_9_2 rfl) pr322) (by first | with_reducible assumption | omega) (by first | with_reducible assumption | omega) (by first | with_reducible assumption | omega) (by first | with_reducible assumption | omega) (⟨by have := (ti327).1; omega, fun q9 => (en_b (by omega) (by rw [← tyF_T (by have q8 := pr322 v315 (by omega) (by rw [e320]; omega); rw [e333] at q8; exact q8) (by omega), ← xh340]; omega)).trans ((ti327).2.1 q9), fun q9 => by omega⟩))
            exact wp_fg (le_s (le_s le_0)) (c133_350 _ M246 (v199 + 1) rfl hP247 hF248 (mUp_at e249) (mUp_no e249 (mUp_no e245 e202 (Or.inr (by decide))) (Or.inr (by decide))) (mUp_no e249 (mUp_no e245 e203 (Or.inr (by decide))) (Or.inr (by decide))) (mUp_no e249 (mUp_at e245) (Or.inr (by decide))) (by first | with_reducible assumption | omega) (by first | with_reducible assumption | omega) (TXP_sm (Sm.up e249 g_9_2 rfl) (TXP_sm (Sm.up e245 g_9_4 rfl) pr205)) (by first | with_reducible assumption | omega) (by first | with_reducible assumption | omega) (by first | with_reducible assumption | omega) (by first | with_reducible assumption | omega) (⟨by omega, fun q9 => rfl, fun q9 => rfl⟩))
      · intro h351
        refine wk_al0 r241_71 (wk_c1 r241_72 (wk_putfi81 r241_73 fd_9_4 (wk_nw g_9_4 rfl hP197 hF198 (uf_9_4 (by decide)) ?_)))
        intro M352 hP353 hF354 e355
        refine wk_al0 r241_76 (wk_al0 r241_77 (wk_getfi r241_78 fd_9_3 (mUp_no e355 e202 (Or.inr (by decide))) (wk_putfi81 r241_81 fd_9_2 (wk_nw g_9_2 rfl hP353 hF354 (uf_9_2 ⟨by omega, by omega⟩) ?_))))
        intro M356 hP357 hF358 e359
        subst hQ; exact wk_ret r241_84 (⟨rfl, hP357, hF358, by have := (mUp_no e359 (mUp_no e355 e202 (Or.inr (by decide))) (Or.inr (by decide))); omega, by have := (mUp_no e359 (mUp_no e355 e202 (Or.inr (by decide))) (Or.inr (by decide))); omega, by have := (mUp_at e359); omega, by have := (mUp_at e359); have := (mUp_no e359 (mUp_no e355 e202 (Or.inr (by decide))) (Or.inr (by decide))); omega, (mUp_no e359 (mUp_no e355 e202 (Or.inr (by decide))) (Or.inr (by decide))).trans ti228, (TXP_sm (Sm.up e359 g_9_2 rfl) (TXP_sm (Sm.up e355 g_9_4 rfl) pr205)), TCP_0 (mUp_no e359 (mUp_no e355 e203 (Or.inr (by decide))) (Or.inr (by decide))) (mUp_no e359 (mUp_no e355 e202 (Or.inr (by decide))) (Or.inr (by decide))) (mUp_no e359 (mUp_at e355) (Or.inr (by decide))) (mUp_at e359) ti228 (by omega) (by omega) (by omega)⟩)
    refine wk_icge r241_16 ⟨by omega, by omega⟩ ⟨by omega, by omega⟩ ?_ ?_
    · intro h210
      exact wp_fg (le_s (le_s le_0)) (c60_360 (((sk_e (by omega)).symm.trans ti209)))
    · intro h211
      refine wk_al0 r241_19 (wk_getfr r241_20 fd_9_0 (br_9_0 hP197) (wk_al0 r241_23 (wk_getfi r241_24 fd_9_3 e202 (wk_baldb r241_27 ar_1 ⟨by omega, by omega⟩ (fun q0 q1 => ba_1 hP197 q0 q1) ?_))))
      intro v212 h214 h215 e213
      refine wk_c2 r241_28 ?_
      refine wk_iceq r241_30 ⟨by omega, by omega⟩ (by decide) ?_ ?_
      · intro h216
        refine wk_al0 r241_47 (wk_dupr r241_48 (wk_getfi r241_49 fd_9_3 e202 (wk_c1 r241_52 (wk_iadd r241_53 (wk_putfi81 r241_54 fd_9_3 (wk_nw g_9_3 rfl hP197 hF198 (uf_9_3 ⟨by omega, by omega⟩) ?_))))))
        intro M217 hP218 hF219 e220
        refine wk_goto r241_57 ?_
        exact wp_fg (le_s (le_s le_0)) (ih361 (500 - (v199 + 1)).toNat (by omega) M217 (v199 + 1) rfl hP218 hF219 (mUp_at e220) (mUp_no e220 e203 (Or.inr (by decide))) (mUp_no e220 e204 (Or.inr (by decide))) (by first | with_reducible assumption | omega) (by first | with_reducible assumption | omega) (TXP_sm (Sm.up e220 g_9_3 rfl) pr205) (by first | with_reducible assumption | omega) (by first | with_reducible assumption | omega) (by first | with_reducible assumption | omega) ((sk_b (by omega) (by have q9 := pr205 v199 (by omega) (by rw [e203]; omega); rw [e213] at q9; omega)).trans ti209))
      · intro h221
        refine wk_al0 r241_33 (wk_getfr r241_34 fd_9_0 (br_9_0 hP197) (wk_al0 r241_37 (wk_getfi r241_38 fd_9_3 e202 (wk_bald r241_41 ar_1 ⟨by omega, by omega⟩ e213 (wk_c2 r241_42 ?_)))))
        refine wk_icne r241_44 ⟨by omega, by omega⟩ (by decide) ?_ ?_
        · intro h222
          exact wp_fg (le_s (le_s le_0)) (c60_360 (((sk_n (by omega) (fun q8 => by have q9 := pr205 v199 (by omega) (by rw [e203]; omega); rw [e213] at q9; omega)).symm.trans ti209)))
        · intro h223
          refine wk_al0 r241_47 (wk_dupr r241_48 (wk_getfi r241_49 fd_9_3 e202 (wk_c1 r241_52 (wk_iadd r241_53 (wk_putfi81 r241_54 fd_9_3 (wk_nw g_9_3 rfl hP197 hF198 (uf_9_3 ⟨by omega, by omega⟩) ?_))))))
          intro M224 hP225 hF226 e227
          refine wk_goto r241_57 ?_
          exact wp_fg (le_s (le_s le_0)) (ih361 (500 - (v199 + 1)).toNat (by omega) M224 (v199 + 1) rfl hP225 hF226 (mUp_at e227) (mUp_no e227 e203 (Or.inr (by decide))) (mUp_no e227 e204 (Or.inr (by decide))) (by first | with_reducible assumption | omega) (by first | with_reducible assumption | omega) (TXP_sm (Sm.up e227 g_9_3 rfl) pr205) (by first | with_reducible assumption | omega) (by first | with_reducible assumption | omega) (by first | with_reducible assumption | omega) ((sk_b (by omega) (by have q9 := pr205 v199 (by omega) (by rw [e203]; omega); rw [e213] at q9; omega)).trans ti209))
  exact wp_fg (le_s (le_s le_0)) (c8_361 _ M1 x9_2 rfl hP2 hF3 (mUp_at e4) (mUp_no e4 ex9_1 (Or.inr (by decide))) (mUp_no e4 ex9_2 (Or.inr (by decide))) (by first | with_reducible assumption | omega) (by first | with_reducible assumption | omega) (TXP_sm (Sm.up e4 g_9_3 rfl) pp_TX) (by first | with_reducible assumption | omega) (by first | with_reducible assumption | omega) (by first | with_reducible assumption | omega) (rfl))
def fm_n7235_9 : Nat := 4222124650659840
/-- IslandHall$Tokens.begin -/
theorem n7235_9 {B : eB} (d : Nat) (M0 : Mm) (p1 : Int) (T : Int → Int) (hP0 : Pw M0) (l1 : 0 ≤ p1) (u1 : p1 ≤ 500) (xp0 : ∀ k : Int, 0 ≤ k → k < p1 → (0 ≤ M0 1 k → T k = M0 1 k) ∧ (M0 1 k < 0 → -128 ≤ M0 1 k ∧ T k = M0 1 k + 256)) : Ct B (d + 3) 235 [R 9, I p1] M0 (qV fun M => Pw M ∧ Fr fm_n7235_9 M0 M ∧ 0 ≤ p1 + (-1) * (M 9 1) ∧ 0 ≤ M 9 1 + (-1) * p1 ∧ 0 ≤ M 9 3 ∧ 0 ≤ p1 + (-1) * (M 9 3) ∧ 0 ≤ p1 + (-1) * (M 9 2) ∧ 0 ≤ M 9 2 + (-1) * (M 9 3) ∧ (M 9 1 = p1) ∧ (M 9 3 = sk T p1 0) ∧ (TXP T M) ∧ (TCP T M)) := by
  refine ct_of (d := d + 2) (k := 0) (L := [some (R 9), some (I p1)]) rfl rfl rfl ?_
  have hF0 := Fr.rf fm_n7235_9 M0
  generalize hQ : (qV fun M => Pw M ∧ Fr fm_n7235_9 M0 M ∧ 0 ≤ p1 + (-1) * (M 9 1) ∧ 0 ≤ M 9 1 + (-1) * p1 ∧ 0 ≤ M 9 3 ∧ 0 ≤ p1 + (-1) * (M 9 3) ∧ 0 ≤ p1 + (-1) * (M 9 2) ∧ 0 ≤ M 9 2 + (-1) * (M 9 3) ∧ (M 9 1 = p1) ∧ (M 9 3 = sk T p1 0) ∧ (TXP T M) ∧ (TCP T M)) = Q
  refine wk_al0 r235_0 (wk_il1 r235_1 (wk_al0 r235_2 (wk_getfr r235_3 fd_9_0 (br_9_0 hP0) (wk_alen r235_6 ar_1 (by decide) (wk_min r235_7 ⟨by omega, by omega⟩ (by decide) rfl ?_)))))
  intro v1 h2 h3 h4
  have h5 : v1 = p1 := by omega
  refine wk_putfi81 r235_10 fd_9_1 (wk_nw g_9_1 rfl hP0 hF0 (uf_9_1 ⟨by omega, by omega⟩) ?_)
  intro M6 hP7 hF8 e9
  have pr10 : TXP T M6 := fun k a b => by rw [(mUp_at e9)] at b; rw [e9, mUp_ne (Or.inl (by decide))]; exact xp0 k a (by omega)
  refine wk_al0 r235_13 (wk_c1 r235_14 (wk_putfi81 r235_15 fd_9_2 (wk_nw g_9_2 rfl hP7 hF8 (uf_9_2 (by decide)) ?_)))
  intro M11 hP12 hF13 e14
  refine wk_al0 r235_18 (wk_cv1 r235_19 kc_9_241 rfl (n7241_9 _ M11 v1 0 T hP12 (mUp_no e14 (mUp_at e9) (Or.inr (by decide))) (by first | with_reducible assumption | omega) (by first | with_reducible assumption | omega) (mUp_at e14) (by first | with_reducible assumption | omega) (by first | with_reducible assumption | omega) (by omega) (TXP_sm (Sm.up e14 g_9_2 rfl) pr10)) (cqV ?_))
  rintro M15 ⟨hP16, hQ17, h19, h20, h21, h22, xh23, pr24, pr25⟩
  have hF18 : Fr fm_n7235_9 M0 M15 := hF13.tr hQ17 rfl
  obtain ⟨v26, e27⟩ : ∃ v, M15 9 3 = v := ⟨_, rfl⟩
  have h28 := (bf_9_3 hP16).1; rw [e27] at h28
  have h29 := (bf_9_3 hP16).2; rw [e27] at h29
  obtain ⟨v30, e31⟩ : ∃ v, M15 9 2 = v := ⟨_, rfl⟩
  have h32 := (bf_9_2 hP16).1; rw [e31] at h32
  have h33 := (bf_9_2 hP16).2; rw [e31] at h33
  subst hQ; exact wk_ret r235_22 (⟨rfl, hP16, hF18, by have := ((hQ17.at g_9_1 rfl).trans (mUp_no e14 (mUp_at e9) (Or.inr (by decide)))); omega, by have := ((hQ17.at g_9_1 rfl).trans (mUp_no e14 (mUp_at e9) (Or.inr (by decide)))); omega, by have := e27; omega, by have := e27; omega, by have := e31; omega, by have := e31; have := e27; omega, by have := ((hQ17.at g_9_1 rfl).trans (mUp_no e14 (mUp_at e9) (Or.inr (by decide)))); omega, by have q9 := xh23; rw [show v1 = p1 by omega] at q9; exact q9, pr24, pr25⟩)
def fm_n7154_6 : Nat := 4222571327258624
/-- IslandHall$Parser.begin -/
theorem n7154_6 {B : eB} (d : Nat) (M0 : Mm) (p1 : Int) (c2 : Int) (T : Int → Int) (hP0 : Pw M0) (l1 : 0 ≤ p1) (u1 : p1 ≤ 500) (hC2 : isC c2) (xp0 : ∀ k : Int, 0 ≤ k → k < p1 → (0 ≤ M0 1 k → T k = M0 1 k) ∧ (M0 1 k < 0 → -128 ≤ M0 1 k ∧ T k = M0 1 k + 256)) : Ct B (d + 4) 154 [R 6, I p1, R c2] M0 (qV fun M => Pw M ∧ Fr fm_n7154_6 M0 M ∧ 0 ≤ p1 + (-1) * (M 9 1) ∧ 0 ≤ M 9 1 + (-1) * p1 ∧ 0 ≤ M 9 3 ∧ 0 ≤ p1 + (-1) * (M 9 3) ∧ 0 ≤ p1 + (-1) * (M 9 2) ∧ 0 ≤ M 9 2 + (-1) * (M 9 3) ∧ 0 ≤ M 6 4 ∧ 0 ≤ (-1) * (M 6 4) ∧ 0 ≤ M 6 5 + 1 ∧ 0 ≤ (-1) * (M 6 5) + (-1) ∧ (M 9 3 = sk T p1 0) ∧ (M 6 2 = c2) ∧ (TXP T M) ∧ (TCP T M)) := by
  refine ct_of (d := d + 3) (k := 0) (L := [some (R 6), some (I p1), some (R c2)]) rfl rfl rfl ?_
  have hF0 := Fr.rf fm_n7154_6 M0
  generalize hQ : (qV fun M => Pw M ∧ Fr fm_n7154_6 M0 M ∧ 0 ≤ p1 + (-1) * (M 9 1) ∧ 0 ≤ M 9 1 + (-1) * p1 ∧ 0 ≤ M 9 3 ∧ 0 ≤ p1 + (-1) * (M 9 3) ∧ 0 ≤ p1 + (-1) * (M 9 2) ∧ 0 ≤ M 9 2 + (-1) * (M 9 3) ∧ 0 ≤ M 6 4 ∧ 0 ≤ (-1) * (M 6 4) ∧ 0 ≤ M 6 5 + 1 ∧ 0 ≤ (-1) * (M 6 5) + (-1) ∧ (M 9 3 = sk T p1 0) ∧ (M 6 2 = c2) ∧ (TXP T M) ∧ (TCP T M)) = Q
  refine wk_al0 r154_0 (wk_al2 r154_1 (wk_putfr81 r154_2 fd_6_2 (wk_nw g_6_2 rfl hP0 hF0 (pcU hC2) ?_)))
  intro M1 hP2 hF3 e4
  refine wk_al0 r154_5 (wk_c1 r154_6 (wk_putfi81 r154_7 fd_6_4 (wk_nw g_6_4 rfl hP2 hF3 (uf_6_4 (by decide)) ?_)))
  intro M5 hP6 hF7 e8
  refine wk_al0 r154_10 (wk_c1 r154_11 (wk_putfi81 r154_12 fd_6_5 (wk_nw g_6_5 rfl hP6 hF7 (uf_6_5 (by decide)) ?_)))
  intro M9 hP10 hF11 e12
  refine wk_al0 r154_15 (wk_getfr r154_16 fd_6_0 (br_6_0 hP10) (wk_il1 r154_19 (wk_cv2 r154_20 kc_9_235 rfl (n7235_9 _ M9 p1 T hP10 (by first | with_reducible assumption | omega) (by first | with_reducible assumption | omega) (fun k a b => by rw [hF11.at (ga_1 k) rfl]; exact xp0 k a b)) (cqV ?_))))
  rintro M13 ⟨hP14, hQ15, h17, h18, h19, h20, h21, h22, xh23, xh24, pr25, pr26⟩
  have hF16 : Fr fm_n7154_6 M0 M13 := hF11.tr hQ15 rfl
  obtain ⟨v27, e28⟩ : ∃ v, M13 9 1 = v := ⟨_, rfl⟩
  have h29 := (bf_9_1 hP14).1; rw [e28] at h29
  have h30 := (bf_9_1 hP14).2; rw [e28] at h30
  obtain ⟨v31, e32⟩ : ∃ v, M13 9 3 = v := ⟨_, rfl⟩
  have h33 := (bf_9_3 hP14).1; rw [e32] at h33
  have h34 := (bf_9_3 hP14).2; rw [e32] at h34
  obtain ⟨v35, e36⟩ : ∃ v, M13 9 2 = v := ⟨_, rfl⟩
  have h37 := (bf_9_2 hP14).1; rw [e36] at h37
  have h38 := (bf_9_2 hP14).2; rw [e36] at h38
  subst hQ; exact wk_ret r154_23 (⟨rfl, hP14, hF16, by have := e28; omega, by have := e28; omega, by have := e32; omega, by have := e32; omega, by have := e36; omega, by have := e36; have := e32; omega, by have := ((hQ15.at g_6_4 rfl).trans (mUp_no e12 (mUp_at e8) (Or.inr (by decide)))); omega, by have := ((hQ15.at g_6_4 rfl).trans (mUp_no e12 (mUp_at e8) (Or.inr (by decide)))); omega, by have := ((hQ15.at g_6_5 rfl).trans (mUp_at e12)); omega, by have := ((hQ15.at g_6_5 rfl).trans (mUp_at e12)); omega, xh24, ((hQ15.at g_6_2 rfl).trans (mUp_no e12 (mUp_no e8 (mUp_at e4) (Or.inr (by decide))) (Or.inr (by decide)))), pr25, pr26⟩)
def fm_n7141 : Nat := 3758096384
/-- IslandHall$Code.clear -/
theorem n7141 {B : eB} (d : Nat) (M0 : Mm) (c0 : Int) (hP0 : Pw M0) (hC0 : isC c0) : Ct B (d + 1) 141 [R c0] M0 (qV fun M => Pw M ∧ Fr fm_n7141 M0 M ∧ (∀ c : Int, isC c → c ≠ c0 → CL M c = CL M0 c) ∧ (CL M c0 = [])) := by
  refine ct_of (d := d + 0) (k := 0) (L := [some (R c0)]) rfl rfl rfl ?_
  have hF0 := Fr.rf fm_n7141 M0
  generalize hQ : (qV fun M => Pw M ∧ Fr fm_n7141 M0 M ∧ (∀ c : Int, isC c → c ≠ c0 → CL M c = CL M0 c) ∧ (CL M c0 = [])) = Q
  refine wk_al0 r141_0 (wk_c1 r141_1 (wk_putfi81 r141_2 (fdC_1 hC0) (wk_nw (g_c1 hC0) rfl hP0 hF0 (uC_1 hC0 (by decide)) ?_)))
  intro M1 hP2 hF3 e4
  refine wk_al0 r141_5 (wk_c1 r141_6 (wk_putfi81 r141_7 (fdC_2 hC0) (wk_nw (g_c2 hC0) rfl hP2 hF3 (uC_2 hC0 (by decide)) ?_)))
  intro M5 hP6 hF7 e8
  refine wk_al0 r141_10 (wk_c1 r141_11 (wk_putfi81 r141_12 (fdC_3 hC0) (wk_nw (g_c3 hC0) rfl hP6 hF7 (uC_3 hC0 (by decide)) ?_)))
  intro M9 hP10 hF11 e12
  subst hQ; exact wk_ret r141_15 (⟨rfl, hP10, hF11, fun c hc hn => (((CL_ot1 hC0 e12 c hc hn).trans (CL_ot1 hC0 e8 c hc hn)).trans (CL_ot1 hC0 e4 c hc hn)), CL_0 (mUp_no e12 (mUp_no e8 (mUp_at e4) (Or.inr (by decide))) (Or.inr (by decide)))⟩)
def fm_n7238_9 : Nat := 0
/-- IslandHall$Tokens.isSign -/
theorem n7238_9 {B : eB} (d : Nat) (M0 : Mm) (p1 : Int) (x9_1 : Int) (x9_3 : Int) (T : Int → Int) (hP0 : Pw M0) (l1 : 40 ≤ p1) (u1 : p1 ≤ 62) (ex9_1 : M0 9 1 = x9_1) (lx9_1 : 0 ≤ x9_1) (ux9_1 : x9_1 ≤ 500) (ex9_3 : M0 9 3 = x9_3) (lx9_3 : 0 ≤ x9_3) (ux9_3 : x9_3 ≤ 500) (pp_TX : TXP T M0) (pp_TC : TCP T M0) : Ct B (d + 1) 238 [R 9, I p1] M0 (qI fun z M => Pw M ∧ Fr fm_n7238_9 M0 M ∧ 0 ≤ z ∧ z ≤ 1 ∧ (z = sgI T x9_1 x9_3 p1)) := by
  refine ct_of (d := d + 0) (k := 0) (L := [some (R 9), some (I p1)]) rfl rfl rfl ?_
  have hF0 := Fr.rf fm_n7238_9 M0
  generalize hQ : (qI fun z M => Pw M ∧ Fr fm_n7238_9 M0 M ∧ 0 ≤ z ∧ z ≤ 1 ∧ (z = sgI T x9_1 x9_3 p1)) = Q
  have hTC := pp_TC
  unfold TCP at hTC
  rw [ex9_1, ex9_3] at hTC
  have hlt := tt_lt T x9_1 x9_3
  refine wk_al0 r238_0 (wk_getfb r238_1 fd_9_4 (bf_9_4 hP0) ?_)
  intro v1 h3 h4 e2
  refine wk_c1 r238_4 ?_
  refine wk_icne r238_5 ⟨by omega, by omega⟩ (by decide) ?_ ?_
  · intro h5
    refine wk_c1 r238_36 ?_
    subst hQ; exact wk_zret r238_37 (by decide) (⟨rfl, _, rfl, hP0, hF0, by omega, by omega, by have := sgI_c T x9_1 x9_3 p1; omega⟩)
  · intro h6
    refine wk_al0 r238_8 (wk_getfi r238_9 fd_9_3 ex9_3 (wk_al0 r238_12 (wk_getfi r238_13 fd_9_1 ex9_1 ?_)))
    refine wk_icge r238_16 ⟨by omega, by omega⟩ ⟨by omega, by omega⟩ ?_ ?_
    · intro h7
      refine wk_c1 r238_36 ?_
      subst hQ; exact wk_zret r238_37 (by decide) (⟨rfl, _, rfl, hP0, hF0, by omega, by omega, by have := sgI_c T x9_1 x9_3 p1; omega⟩)
    · intro h8
      refine wk_al0 r238_19 (wk_getfr r238_20 fd_9_0 (br_9_0 hP0) (wk_al0 r238_23 (wk_getfi r238_24 fd_9_3 ex9_3 (wk_baldb r238_27 ar_1 ⟨by omega, by omega⟩ (fun q0 q1 => ba_1 hP0 q0 q1) ?_))))
      intro v9 h11 h12 e10
      refine wk_il1 r238_28 ?_
      refine wk_icne r238_29 ⟨by omega, by omega⟩ ⟨by omega, by omega⟩ ?_ ?_
      · intro h13
        refine wk_c1 r238_36 ?_
        subst hQ; exact wk_zret r238_37 (by decide) (⟨rfl, _, rfl, hP0, hF0, by omega, by omega, by have := sgI_c T x9_1 x9_3 p1; have q9 := pp_TX x9_3 (by omega) (by rw [ex9_1]; omega); rw [e10] at q9; omega⟩)
      · intro h14
        refine wk_c1 r238_32 (wk_goto r238_33 ?_)
        subst hQ; exact wk_zret r238_37 (by decide) (⟨rfl, _, rfl, hP0, hF0, by omega, by omega, by have := sgI_c T x9_1 x9_3 p1; have q9 := pp_TX x9_3 (by omega) (by rw [ex9_1]; omega); rw [e10] at q9; omega⟩)
def fm_n7237_9 : Nat := 0
/-- IslandHall$Tokens.isName -/
theorem n7237_9 {B : eB} (d : Nat) (M0 : Mm) (x9_1 : Int) (x9_3 : Int) (T : Int → Int) (hP0 : Pw M0) (ex9_1 : M0 9 1 = x9_1) (lx9_1 : 0 ≤ x9_1) (ux9_1 : x9_1 ≤ 500) (ex9_3 : M0 9 3 = x9_3) (lx9_3 : 0 ≤ x9_3) (ux9_3 : x9_3 ≤ 500) (pp_TX : TXP T M0) (pp_TC : TCP T M0) : Ct B (d + 1) 237 [R 9] M0 (qI fun z M => Pw M ∧ Fr fm_n7237_9 M0 M ∧ 0 ≤ z ∧ z ≤ 1 ∧ (z = nmI T x9_1 x9_3)) := by
  refine ct_of (d := d + 0) (k := 0) (L := [some (R 9)]) rfl rfl rfl ?_
  have hF0 := Fr.rf fm_n7237_9 M0
  generalize hQ : (qI fun z M => Pw M ∧ Fr fm_n7237_9 M0 M ∧ 0 ≤ z ∧ z ≤ 1 ∧ (z = nmI T x9_1 x9_3)) = Q
  have hTC := pp_TC
  unfold TCP at hTC
  rw [ex9_1, ex9_3] at hTC
  have hlt := tt_lt T x9_1 x9_3
  refine wk_al0 r237_0 (wk_getfb r237_1 fd_9_4 (bf_9_4 hP0) ?_)
  intro v1 h3 h4 e2
  refine wk_c1 r237_4 ?_
  refine wk_icne r237_5 ⟨by omega, by omega⟩ (by decide) ?_ ?_
  · intro h5
    refine wk_c1 r237_25 ?_
    subst hQ; exact wk_zret r237_26 (by decide) (⟨rfl, _, rfl, hP0, hF0, by omega, by omega, by have := nmI_c T x9_1 x9_3; omega⟩)
  · intro h6
    refine wk_al0 r237_8 (wk_getfb r237_9 fd_9_2 (bf_9_2 hP0) ?_)
    intro v7 h9 h10 e8
    refine wk_al0 r237_12 (wk_getfi r237_13 fd_9_3 ex9_3 (wk_isub r237_16 (wk_c1 r237_17 ?_)))
    refine wk_icne r237_18 ⟨by omega, by omega⟩ (by decide) ?_ ?_
    · intro h11
      refine wk_c1 r237_25 ?_
      subst hQ; exact wk_zret r237_26 (by decide) (⟨rfl, _, rfl, hP0, hF0, by omega, by omega, by have := nmI_c T x9_1 x9_3; omega⟩)
    · intro h12
      refine wk_c1 r237_21 (wk_goto r237_22 ?_)
      subst hQ; exact wk_zret r237_26 (by decide) (⟨rfl, _, rfl, hP0, hF0, by omega, by omega, by have := nmI_c T x9_1 x9_3; omega⟩)
def fm_n7239_9 : Nat := 0
/-- IslandHall$Tokens.isWord -/
theorem n7239_9 {B : eB} (d : Nat) (M0 : Mm) (t1 : Int) (x9_1 : Int) (x9_3 : Int) (T : Int → Int) (hP0 : Pw M0) (ht_t1 : 4097 ≤ t1 ∧ t1 ≤ 4132) (ex9_1 : M0 9 1 = x9_1) (lx9_1 : 0 ≤ x9_1) (ux9_1 : x9_1 ≤ 500) (ex9_3 : M0 9 3 = x9_3) (lx9_3 : 0 ≤ x9_3) (ux9_3 : x9_3 ≤ 500) (xp0 : 4111 ≤ t1) (pp_TX : TXP T M0) (pp_TC : TCP T M0) : Ct B (d + 2) 239 [R 9, R t1] M0 (qI fun z M => Pw M ∧ Fr fm_n7239_9 M0 M ∧ 0 ≤ z ∧ z ≤ 1 ∧ (z = 1 ↔ kw T x9_1 x9_3 = wix t1)) := by
  refine ct_of (d := d + 1) (k := 1) (L := [some (R 9), some (R t1), none]) rfl rfl rfl ?_
  have hF0 := Fr.rf fm_n7239_9 M0
  generalize hQ : (qI fun z M => Pw M ∧ Fr fm_n7239_9 M0 M ∧ 0 ≤ z ∧ z ≤ 1 ∧ (z = 1 ↔ kw T x9_1 x9_3 = wix t1)) = Q
  have hTC := pp_TC
  unfold TCP at hTC
  rw [ex9_1, ex9_3] at hTC
  have hlt := tt_lt T x9_1 x9_3
  refine wk_al0 r239_0 (wk_getfb r239_1 fd_9_4 (bf_9_4 hP0) ?_)
  intro v1 h3 h4 e2
  refine wk_c1 r239_4 ?_
  refine wk_icne r239_5 ⟨by omega, by omega⟩ (by decide) ?_ ?_
  · intro h5
    refine wk_c1 r239_24 ?_
    subst hQ; exact wk_zret r239_25 (by decide) (⟨rfl, _, rfl, hP0, hF0, by omega, by omega, by first | exact kw_of pp_TC pp_TX ex9_1 ex9_3 xp0 ht_t1.2 ⟨fun h => by omega, fun h => by have h1 := h.1; have h2 := h.2.1; omega⟩ | exact kw_of pp_TC pp_TX ex9_1 ex9_3 xp0 ht_t1.2 ⟨fun h => by omega, fun h => by have h1 := h.2.2 _ (by omega) (by omega); rw [ex9_3] at h1; omega⟩ | exact kw_of pp_TC pp_TX ex9_1 ex9_3 xp0 ht_t1.2 ⟨fun _ => ⟨by omega, by omega, fun i h0 h1 => by rw [ex9_3]; exact _ i h0 (by omega)⟩, fun _ => rfl⟩⟩)
  · intro h6
    refine wk_al0 r239_8 (wk_getfb r239_9 fd_9_2 (bf_9_2 hP0) ?_)
    intro v7 h9 h10 e8
    refine wk_al0 r239_12 (wk_getfi r239_13 fd_9_3 ex9_3 (wk_isub r239_16 (wk_al1 r239_17 (wk_ct1 r239_18 ht_t1 rfl (ct_len _ _ ht_t1) (cqI ?_)))))
    rintro v11 _ ⟨rfl, h12, h13, h14⟩
    refine wk_iceq r239_21 ⟨by omega, by omega⟩ ⟨by omega, by omega⟩ ?_ ?_
    · intro h15
      refine wk_c1 r239_26 (wk_is2 r239_27 rfl ?_)
      have c28_216 : ∀ (k216 : Nat) (v196 : Int), (40 - v196).toNat = k216 → 0 ≤ v196 → v196 ≤ 40 → (∀ k : Int, 0 ≤ k → k < v196 → M0 1 (x9_3 + k) = chf t1 k) → Wp B (d + 1) 239 28 [some (R 9), some (R t1), some (I v196)] [] M0 Q := by
        refine lp_ind ?_
        intro k216 ih216 v196 hk216 h197 h198 ti199
        refine wk_il2 r239_28 (wk_al1 r239_29 (wk_ct1 r239_30 ht_t1 rfl (ct_len _ _ ht_t1) (cqI ?_)))
        rintro v200 _ ⟨rfl, h201, h202, h203⟩
        refine wk_icge r239_33 ⟨by omega, by omega⟩ ⟨by omega, by omega⟩ ?_ ?_
        · intro h204
          refine wk_c1 r239_63 ?_
          subst hQ; exact wk_zret r239_64 (by decide) (⟨rfl, _, rfl, hP0, hF0, by omega, by omega, by first | exact kw_of pp_TC pp_TX ex9_1 ex9_3 xp0 ht_t1.2 ⟨fun h => by omega, fun h => by have h1 := h.1; have h2 := h.2.1; omega⟩ | exact kw_of pp_TC pp_TX ex9_1 ex9_3 xp0 ht_t1.2 ⟨fun h => by omega, fun h => by have h1 := h.2.2 v196 (by omega) (by omega); rw [ex9_3] at h1; omega⟩ | exact kw_of pp_TC pp_TX ex9_1 ex9_3 xp0 ht_t1.2 ⟨fun _ => ⟨by omega, by omega, fun i h0 h1 => by rw [ex9_3]; exact ti199 i h0 (by omega)⟩, fun _ => rfl⟩⟩)
        · intro h205
          refine wk_al0 r239_36 (wk_getfr r239_37 fd_9_0 (br_9_0 hP0) (wk_al0 r239_40 (wk_getfi r239_41 fd_9_3 ex9_3 (wk_il2 r239_44 (wk_iadd r239_45 (wk_baldb r239_46 ar_1 ⟨by omega, by omega⟩ (fun q0 q1 => ba_1 hP0 q0 q1) ?_))))))
          intro v206 h208 h209 e207
          refine wk_al1 r239_47 (wk_il2 r239_48 (wk_ct2 r239_49 ht_t1 rfl (ct_cha _ _ ht_t1 ⟨by omega, by omega⟩) (cqI ?_)))
          rintro v210 _ ⟨rfl, h211, h212, h213⟩
          refine wk_iceq r239_52 ⟨by omega, by omega⟩ ⟨by omega, by omega⟩ ?_ ?_
          · intro h214
            refine wk_inc2 r239_57 rfl (wk_goto r239_60 ?_)
            exact wp_fg (le_s (le_s (le_s le_0))) (ih216 (40 - (v196 + 1)).toNat (by omega) (v196 + 1) rfl (by first | with_reducible assumption | omega) (by first | with_reducible assumption | omega) (fun k q0 q1 => (Int.lt_or_le k v196).elim (fun q => ti199 k q0 q) (fun q => by rw [show k = v196 by omega]; omega)))
          · intro h215
            refine wk_c1 r239_55 ?_
            subst hQ; exact wk_zret r239_56 (by decide) (⟨rfl, _, rfl, hP0, hF0, by omega, by omega, by first | exact kw_of pp_TC pp_TX ex9_1 ex9_3 xp0 ht_t1.2 ⟨fun h => by omega, fun h => by have h1 := h.1; have h2 := h.2.1; omega⟩ | exact kw_of pp_TC pp_TX ex9_1 ex9_3 xp0 ht_t1.2 ⟨fun h => by omega, fun h => by have h1 := h.2.2 v196 (by omega) (by omega); rw [ex9_3] at h1; omega⟩ | exact kw_of pp_TC pp_TX ex9_1 ex9_3 xp0 ht_t1.2 ⟨fun _ => ⟨by omega, by omega, fun i h0 h1 => by rw [ex9_3]; exact ti199 i h0 (by omega)⟩, fun _ => rfl⟩⟩)
      exact wp_fg (le_s (le_s (le_s le_0))) (c28_216 _ 0 rfl (by first | with_reducible assumption | omega) (by first | with_reducible assumption | omega) (fun k a b => by omega))
    · intro h217
      refine wk_c1 r239_24 ?_
      subst hQ; exact wk_zret r239_25 (by decide) (⟨rfl, _, rfl, hP0, hF0, by omega, by omega, by first | exact kw_of pp_TC pp_TX ex9_1 ex9_3 xp0 ht_t1.2 ⟨fun h => by omega, fun h => by have h1 := h.1; have h2 := h.2.1; omega⟩ | exact kw_of pp_TC pp_TX ex9_1 ex9_3 xp0 ht_t1.2 ⟨fun h => by omega, fun h => by have h1 := h.2.2 _ (by omega) (by omega); rw [ex9_3] at h1; omega⟩ | exact kw_of pp_TC pp_TX ex9_1 ex9_3 xp0 ht_t1.2 ⟨fun _ => ⟨by omega, by omega, fun i h0 h1 => by rw [ex9_3]; exact _ i h0 (by omega)⟩, fun _ => rfl⟩⟩)
def fm_n7155_6 : Nat := 0
/-- IslandHall$Parser.canBegin -/
theorem n7155_6 {B : eB} (d : Nat) (M0 : Mm) (x9_1 : Int) (x9_3 : Int) (T : Int → Int) (hP0 : Pw M0) (ex9_1 : M0 9 1 = x9_1) (lx9_1 : 0 ≤ x9_1) (ux9_1 : x9_1 ≤ 500) (ex9_3 : M0 9 3 = x9_3) (lx9_3 : 0 ≤ x9_3) (ux9_3 : x9_3 ≤ 500) (pp_TX : TXP T M0) (pp_TC : TCP T M0) : Ct B (d + 3) 155 [R 6] M0 (qI fun z M => Pw M ∧ Fr fm_n7155_6 M0 M ∧ 0 ≤ z ∧ z ≤ 1 ∧ (z = cbI T x9_1 x9_3)) := by
  refine ct_of (d := d + 2) (k := 0) (L := [some (R 6)]) rfl rfl rfl ?_
  have hF0 := Fr.rf fm_n7155_6 M0
  generalize hQ : (qI fun z M => Pw M ∧ Fr fm_n7155_6 M0 M ∧ 0 ≤ z ∧ z ≤ 1 ∧ (z = cbI T x9_1 x9_3)) = Q
  refine wk_al0 r155_0 (wk_getfr r155_1 fd_6_0 (br_6_0 hP0) (wk_c2 r155_4 (wk_cv2 r155_6 kc_9_238 rfl (n7238_9 _ M0 40 x9_1 x9_3 T hP0 (by decide) (by decide) ex9_1 (by first | with_reducible assumption | omega) (by first | with_reducible assumption | omega) ex9_3 (by first | with_reducible assumption | omega) (by first | with_reducible assumption | omega) pp_TX pp_TC) (cqI ?_))))
  rintro v6 M1 ⟨hP2, hQ3, h7, h8, xh5⟩
  obtain rfl := Fr.same hQ3
  refine wk_ifne r155_9 ⟨by omega, by omega⟩ ?_ ?_
  · intro h9
    refine wk_c1 r155_94 (wk_goto r155_95 ?_)
    subst hQ; exact wk_zret r155_99 (by decide) (⟨rfl, _, rfl, hP0, hF0, by omega, by omega, by have := cbI_c T x9_1 x9_3; omega⟩)
  · intro h10
    refine wk_al0 r155_12 (wk_getfr r155_13 fd_6_0 (br_6_0 hP0) (wk_cv1 r155_16 kc_9_237 rfl (n7237_9 _ M0 x9_1 x9_3 T hP0 ex9_1 (by first | with_reducible assumption | omega) (by first | with_reducible assumption | omega) ex9_3 (by first | with_reducible assumption | omega) (by first | with_reducible assumption | omega) pp_TX pp_TC) (cqI ?_)))
    rintro v16 M11 ⟨hP12, hQ13, h17, h18, xh15⟩
    obtain rfl := Fr.same hQ13
    refine wk_ifne r155_19 ⟨by omega, by omega⟩ ?_ ?_
    · intro h19
      refine wk_c1 r155_94 (wk_goto r155_95 ?_)
      subst hQ; exact wk_zret r155_99 (by decide) (⟨rfl, _, rfl, hP0, hF0, by omega, by omega, by have := cbI_c T x9_1 x9_3; omega⟩)
    · intro h20
      refine wk_al0 r155_22 (wk_getfr r155_23 fd_6_0 (br_6_0 hP0) (wk_c8 r155_26 (wk_cv2 r155_28 kc_9_239 rfl (n7239_9 _ M0 4119 x9_1 x9_3 T hP0 (by decide) ex9_1 (by first | with_reducible assumption | omega) (by first | with_reducible assumption | omega) ex9_3 (by first | with_reducible assumption | omega) (by first | with_reducible assumption | omega) (by first | assumption | omega | (unfold stepok; omega)) pp_TX pp_TC) (cqI ?_))))
      rintro v26 M21 ⟨hP22, hQ23, h27, h28, xh25⟩
      obtain rfl := Fr.same hQ23
      rw [show wix 4119 = 14 from rfl] at xh25
      refine wk_ifne r155_31 ⟨by omega, by omega⟩ ?_ ?_
      · intro h29
        refine wk_c1 r155_94 (wk_goto r155_95 ?_)
        subst hQ; exact wk_zret r155_99 (by decide) (⟨rfl, _, rfl, hP0, hF0, by omega, by omega, by have := cbI_c T x9_1 x9_3; omega⟩)
      · intro h30
        refine wk_al0 r155_34 (wk_getfr r155_35 fd_6_0 (br_6_0 hP0) (wk_c8 r155_38 (wk_cv2 r155_40 kc_9_239 rfl (n7239_9 _ M0 4114 x9_1 x9_3 T hP0 (by decide) ex9_1 (by first | with_reducible assumption | omega) (by first | with_reducible assumption | omega) ex9_3 (by first | with_reducible assumption | omega) (by first | with_reducible assumption | omega) (by first | assumption | omega | (unfold stepok; omega)) pp_TX pp_TC) (cqI ?_))))
        rintro v36 M31 ⟨hP32, hQ33, h37, h38, xh35⟩
        obtain rfl := Fr.same hQ33
        rw [show wix 4114 = 18 from rfl] at xh35
        refine wk_ifne r155_43 ⟨by omega, by omega⟩ ?_ ?_
        · intro h39
          refine wk_c1 r155_94 (wk_goto r155_95 ?_)
          subst hQ; exact wk_zret r155_99 (by decide) (⟨rfl, _, rfl, hP0, hF0, by omega, by omega, by have := cbI_c T x9_1 x9_3; omega⟩)
        · intro h40
          refine wk_al0 r155_46 (wk_getfr r155_47 fd_6_0 (br_6_0 hP0) (wk_c8 r155_50 (wk_cv2 r155_52 kc_9_239 rfl (n7239_9 _ M0 4115 x9_1 x9_3 T hP0 (by decide) ex9_1 (by first | with_reducible assumption | omega) (by first | with_reducible assumption | omega) ex9_3 (by first | with_reducible assumption | omega) (by first | with_reducible assumption | omega) (by first | assumption | omega | (unfold stepok; omega)) pp_TX pp_TC) (cqI ?_))))
          rintro v46 M41 ⟨hP42, hQ43, h47, h48, xh45⟩
          obtain rfl := Fr.same hQ43
          rw [show wix 4115 = 8 from rfl] at xh45
          refine wk_ifne r155_55 ⟨by omega, by omega⟩ ?_ ?_
          · intro h49
            refine wk_c1 r155_94 (wk_goto r155_95 ?_)
            subst hQ; exact wk_zret r155_99 (by decide) (⟨rfl, _, rfl, hP0, hF0, by omega, by omega, by have := cbI_c T x9_1 x9_3; omega⟩)
          · intro h50
            refine wk_al0 r155_58 (wk_getfr r155_59 fd_6_0 (br_6_0 hP0) (wk_c8 r155_62 (wk_cv2 r155_64 kc_9_239 rfl (n7239_9 _ M0 4118 x9_1 x9_3 T hP0 (by decide) ex9_1 (by first | with_reducible assumption | omega) (by first | with_reducible assumption | omega) ex9_3 (by first | with_reducible assumption | omega) (by first | with_reducible assumption | omega) (by first | assumption | omega | (unfold stepok; omega)) pp_TX pp_TC) (cqI ?_))))
            rintro v56 M51 ⟨hP52, hQ53, h57, h58, xh55⟩
            obtain rfl := Fr.same hQ53
            rw [show wix 4118 = 19 from rfl] at xh55
            refine wk_ifne r155_67 ⟨by omega, by omega⟩ ?_ ?_
            · intro h59
              refine wk_c1 r155_94 (wk_goto r155_95 ?_)
              subst hQ; exact wk_zret r155_99 (by decide) (⟨rfl, _, rfl, hP0, hF0, by omega, by omega, by have := cbI_c T x9_1 x9_3; omega⟩)
            · intro h60
              refine wk_al0 r155_70 (wk_getfr r155_71 fd_6_0 (br_6_0 hP0) (wk_c8 r155_74 (wk_cv2 r155_76 kc_9_239 rfl (n7239_9 _ M0 4116 x9_1 x9_3 T hP0 (by decide) ex9_1 (by first | with_reducible assumption | omega) (by first | with_reducible assumption | omega) ex9_3 (by first | with_reducible assumption | omega) (by first | with_reducible assumption | omega) (by first | assumption | omega | (unfold stepok; omega)) pp_TX pp_TC) (cqI ?_))))
              rintro v66 M61 ⟨hP62, hQ63, h67, h68, xh65⟩
              obtain rfl := Fr.same hQ63
              rw [show wix 4116 = 20 from rfl] at xh65
              refine wk_ifne r155_79 ⟨by omega, by omega⟩ ?_ ?_
              · intro h69
                refine wk_c1 r155_94 (wk_goto r155_95 ?_)
                subst hQ; exact wk_zret r155_99 (by decide) (⟨rfl, _, rfl, hP0, hF0, by omega, by omega, by have := cbI_c T x9_1 x9_3; omega⟩)
              · intro h70
                refine wk_al0 r155_82 (wk_getfr r155_83 fd_6_0 (br_6_0 hP0) (wk_c8 r155_86 (wk_cv2 r155_88 kc_9_239 rfl (n7239_9 _ M0 4117 x9_1 x9_3 T hP0 (by decide) ex9_1 (by first | with_reducible assumption | omega) (by first | with_reducible assumption | omega) ex9_3 (by first | with_reducible assumption | omega) (by first | with_reducible assumption | omega) (by first | assumption | omega | (unfold stepok; omega)) pp_TX pp_TC) (cqI ?_))))
                rintro v76 M71 ⟨hP72, hQ73, h77, h78, xh75⟩
                obtain rfl := Fr.same hQ73
                rw [show wix 4117 = 21 from rfl] at xh75
                refine wk_ifeq r155_91 ⟨by omega, by omega⟩ ?_ ?_
                · intro h79
                  refine wk_c1 r155_98 ?_
                  subst hQ; exact wk_zret r155_99 (by decide) (⟨rfl, _, rfl, hP0, hF0, by omega, by omega, by have := cbI_c T x9_1 x9_3; omega⟩)
                · intro h80
                  refine wk_c1 r155_94 (wk_goto r155_95 ?_)
                  subst hQ; exact wk_zret r155_99 (by decide) (⟨rfl, _, rfl, hP0, hF0, by omega, by omega, by have := cbI_c T x9_1 x9_3; omega⟩)
def fm_n7175_6 : Nat := 3940649673949184
/-- IslandHall$Parser.takeWord -/
theorem n7175_6 {B : eB} (d : Nat) (M0 : Mm) (t1 : Int) (x9_1 : Int) (x9_3 : Int) (x9_2 : Int) (T : Int → Int) (hP0 : Pw M0) (ht_t1 : 4097 ≤ t1 ∧ t1 ≤ 4132) (ex9_1 : M0 9 1 = x9_1) (lx9_1 : 0 ≤ x9_1) (ux9_1 : x9_1 ≤ 500) (ex9_3 : M0 9 3 = x9_3) (lx9_3 : 0 ≤ x9_3) (ux9_3 : x9_3 ≤ 500) (ex9_2 : M0 9 2 = x9_2) (lx9_2 : 0 ≤ x9_2) (ux9_2 : x9_2 ≤ 500) (rp0 : 0 ≤ x9_1 + (-1) * x9_2) (rp1 : 0 ≤ x9_2 + (-1) * x9_3) (rp2 : 0 ≤ x9_1 + (-1) * x9_3) (xp0 : 4111 ≤ t1) (pp_TX : TXP T M0) (pp_TC : TCP T M0) : Ct B (d + 3) 175 [R 6, R t1] M0 (qI fun z M => Pw M ∧ Fr fm_n7175_6 M0 M ∧ 0 ≤ z ∧ z ≤ 1 ∧ 0 ≤ M 9 3 + (-1) * x9_3 ∧ 0 ≤ x9_1 + (-1) * (M 9 3) ∧ 0 ≤ x9_1 + (-1) * (M 9 2) ∧ 0 ≤ M 9 2 + (-1) * (M 9 3) ∧ (z = 1 → 0 ≤ M 9 3 + (-1) * x9_3 + (-1)) ∧ ((z = 1 ∧ kw T x9_1 x9_3 = wix t1 ∧ M 9 3 = nx T x9_1 x9_3 ∧ x9_3 + 1 ≤ M 9 3) ∨ (z = 0 ∧ kw T x9_1 x9_3 ≠ wix t1 ∧ M 9 3 = x9_3 ∧ M 9 2 = x9_2)) ∧ (TXP T M) ∧ (TCP T M)) := by
  refine ct_of (d := d + 2) (k := 0) (L := [some (R 6), some (R t1)]) rfl rfl rfl ?_
  have hF0 := Fr.rf fm_n7175_6 M0
  generalize hQ : (qI fun z M => Pw M ∧ Fr fm_n7175_6 M0 M ∧ 0 ≤ z ∧ z ≤ 1 ∧ 0 ≤ M 9 3 + (-1) * x9_3 ∧ 0 ≤ x9_1 + (-1) * (M 9 3) ∧ 0 ≤ x9_1 + (-1) * (M 9 2) ∧ 0 ≤ M 9 2 + (-1) * (M 9 3) ∧ (z = 1 → 0 ≤ M 9 3 + (-1) * x9_3 + (-1)) ∧ ((z = 1 ∧ kw T x9_1 x9_3 = wix t1 ∧ M 9 3 = nx T x9_1 x9_3 ∧ x9_3 + 1 ≤ M 9 3) ∨ (z = 0 ∧ kw T x9_1 x9_3 ≠ wix t1 ∧ M 9 3 = x9_3 ∧ M 9 2 = x9_2)) ∧ (TXP T M) ∧ (TCP T M)) = Q
  have hnl := nx_lt (T := T) (n := x9_1) (s := x9_3) (by omega)
  have hkl := kw_lt (T := T) (n := x9_1) (s := x9_3)
  have hwx := wix_nn xp0 ht_t1.2
  refine wk_al0 r175_0 (wk_getfr r175_1 fd_6_0 (br_6_0 hP0) (wk_al1 r175_4 (wk_cv2 r175_5 kc_9_239 rfl (n7239_9 _ M0 t1 x9_1 x9_3 T hP0 ht_t1 ex9_1 (by first | with_reducible assumption | omega) (by first | with_reducible assumption | omega) ex9_3 (by first | with_reducible assumption | omega) (by first | with_reducible assumption | omega) (by first | assumption | omega | (unfold stepok; omega)) pp_TX pp_TC) (cqI ?_))))
  rintro v6 M1 ⟨hP2, hQ3, h7, h8, xh5⟩
  obtain rfl := Fr.same hQ3
  refine wk_ifne r175_8 ⟨by omega, by omega⟩ ?_ ?_
  · intro h9
    refine wk_al0 r175_13 (wk_getfr r175_14 fd_6_0 (br_6_0 hP0) (wk_cv1 r175_17 kc_9_241 rfl (n7241_9 _ M0 x9_1 x9_2 T hP0 ex9_1 (by first | with_reducible assumption | omega) (by first | with_reducible assumption | omega) ex9_2 (by first | with_reducible assumption | omega) (by first | with_reducible assumption | omega) (by omega) pp_TX) (cqV ?_)))
    rintro M10 ⟨hP11, hQ12, h14, h15, h16, h17, xh18, pr19, pr20⟩
    have hF13 : Fr fm_n7175_6 M0 M10 := hF0.tr hQ12 rfl
    obtain ⟨v21, e22⟩ : ∃ v, M10 9 3 = v := ⟨_, rfl⟩
    have h23 := (bf_9_3 hP11).1; rw [e22] at h23
    have h24 := (bf_9_3 hP11).2; rw [e22] at h24
    obtain ⟨v25, e26⟩ : ∃ v, M10 9 2 = v := ⟨_, rfl⟩
    have h27 := (bf_9_2 hP11).1; rw [e26] at h27
    have h28 := (bf_9_2 hP11).2; rw [e26] at h28
    have hn29 := nx_of pp_TC ex9_1 ex9_3 ex9_2 xh18
    refine wk_c1 r175_20 ?_
    subst hQ; exact wk_zret r175_21 (by decide) (⟨rfl, _, rfl, hP11, hF13, by omega, by omega, by have := e22; omega, by have := e22; omega, by have := e26; omega, by have := e26; have := e22; omega, by have := e22; omega, by have := e22; have := e26; have := wix_nn xp0 ht_t1.2; have := kw_lt (T := T) (n := x9_1) (s := x9_3); have := nx_lt (T := T) (n := x9_1) (s := x9_3) (by omega); omega, pr19, pr20⟩)
  · intro h30
    refine wk_c1 r175_11 ?_
    subst hQ; exact wk_zret r175_12 (by decide) (⟨rfl, _, rfl, hP0, hF0, by omega, by omega, by have := ex9_3; omega, by have := ex9_3; omega, by have := ex9_2; omega, by have := ex9_2; have := ex9_3; omega, by omega, by have := ex9_3; have := ex9_2; have := wix_nn xp0 ht_t1.2; have := kw_lt (T := T) (n := x9_1) (s := x9_3); have := nx_lt (T := T) (n := x9_1) (s := x9_3) (by omega); omega, pp_TX, pp_TC⟩)
def fm_n7159_6 : Nat := 412316860416
/-- IslandHall$Parser.fail -/
theorem n7159_6 {B : eB} (d : Nat) (M0 : Mm) (p1 : Int) (x9_3 : Int) (hP0 : Pw M0) (l1 : 1 ≤ p1) (u1 : p1 ≤ 6) (ex9_3 : M0 9 3 = x9_3) (lx9_3 : 0 ≤ x9_3) (ux9_3 : x9_3 ≤ 500) : Ct B (d + 1) 159 [R 6, I p1] M0 (qI fun z M => Pw M ∧ Fr fm_n7159_6 M0 M ∧ 0 ≤ z ∧ z ≤ 0 ∧ 0 ≤ M 6 4 + (-1) * p1 ∧ 0 ≤ (-1) * (M 6 4) + p1 ∧ 0 ≤ M 6 5 + (-1) * x9_3 ∧ 0 ≤ (-1) * (M 6 5) + x9_3) := by
  refine ct_of (d := d + 0) (k := 0) (L := [some (R 6), some (I p1)]) rfl rfl rfl ?_
  have hF0 := Fr.rf fm_n7159_6 M0
  generalize hQ : (qI fun z M => Pw M ∧ Fr fm_n7159_6 M0 M ∧ 0 ≤ z ∧ z ≤ 0 ∧ 0 ≤ M 6 4 + (-1) * p1 ∧ 0 ≤ (-1) * (M 6 4) + p1 ∧ 0 ≤ M 6 5 + (-1) * x9_3 ∧ 0 ≤ (-1) * (M 6 5) + x9_3) = Q
  refine wk_al0 r159_0 (wk_il1 r159_1 (wk_putfi81 r159_2 fd_6_4 (wk_nw g_6_4 rfl hP0 hF0 (uf_6_4 ⟨by omega, by omega⟩) ?_)))
  intro M1 hP2 hF3 e4
  refine wk_al0 r159_5 (wk_al0 r159_6 (wk_getfr r159_7 fd_6_0 (br_6_0 hP2) (wk_getfi r159_10 fd_9_3 (mUp_no e4 ex9_3 (Or.inl (by decide))) (wk_putfi81 r159_13 fd_6_5 (wk_nw g_6_5 rfl hP2 hF3 (uf_6_5 ⟨by omega, by omega⟩) ?_)))))
  intro M5 hP6 hF7 e8
  refine wk_c1 r159_16 ?_
  subst hQ; exact wk_zret r159_17 (by decide) (⟨rfl, _, rfl, hP6, hF7, by omega, by omega, by have := (mUp_no e8 (mUp_at e4) (Or.inr (by decide))); omega, by have := (mUp_no e8 (mUp_at e4) (Or.inr (by decide))); omega, by have := (mUp_at e8); omega, by have := (mUp_at e8); omega⟩)
def fm_n7240_9 : Nat := 0
/-- IslandHall$Tokens.kind -/
theorem n7240_9 {B : eB} (d : Nat) (M0 : Mm) (x9_1 : Int) (x9_3 : Int) (T : Int → Int) (hP0 : Pw M0) (ex9_1 : M0 9 1 = x9_1) (lx9_1 : 0 ≤ x9_1) (ux9_1 : x9_1 ≤ 500) (ex9_3 : M0 9 3 = x9_3) (lx9_3 : 0 ≤ x9_3) (ux9_3 : x9_3 ≤ 500) (pp_TX : TXP T M0) (pp_TC : TCP T M0) : Ct B (d + 3) 240 [R 9] M0 (qI fun z M => Pw M ∧ Fr fm_n7240_9 M0 M ∧ (-1) ≤ z ∧ z ≤ 4 ∧ (z = kdI T x9_1 x9_3)) := by
  refine ct_of (d := d + 2) (k := 0) (L := [some (R 9)]) rfl rfl rfl ?_
  have hF0 := Fr.rf fm_n7240_9 M0
  generalize hQ : (qI fun z M => Pw M ∧ Fr fm_n7240_9 M0 M ∧ (-1) ≤ z ∧ z ≤ 4 ∧ (z = kdI T x9_1 x9_3)) = Q
  refine wk_al0 r240_0 (wk_c8 r240_1 (wk_cv2 r240_3 kc_9_239 rfl (n7239_9 _ M0 4128 x9_1 x9_3 T hP0 (by decide) ex9_1 (by first | with_reducible assumption | omega) (by first | with_reducible assumption | omega) ex9_3 (by first | with_reducible assumption | omega) (by first | with_reducible assumption | omega) (by first | assumption | omega | (unfold stepok; omega)) pp_TX pp_TC) (cqI ?_)))
  rintro v6 M1 ⟨hP2, hQ3, h7, h8, xh5⟩
  obtain rfl := Fr.same hQ3
  rw [show wix 4128 = 0 from rfl] at xh5
  refine wk_ifeq r240_6 ⟨by omega, by omega⟩ ?_ ?_
  · intro h9
    refine wk_al0 r240_11 (wk_c8 r240_12 (wk_cv2 r240_14 kc_9_239 rfl (n7239_9 _ M0 4129 x9_1 x9_3 T hP0 (by decide) ex9_1 (by first | with_reducible assumption | omega) (by first | with_reducible assumption | omega) ex9_3 (by first | with_reducible assumption | omega) (by first | with_reducible assumption | omega) (by first | assumption | omega | (unfold stepok; omega)) pp_TX pp_TC) (cqI ?_)))
    rintro v15 M10 ⟨hP11, hQ12, h16, h17, xh14⟩
    obtain rfl := Fr.same hQ12
    rw [show wix 4129 = 1 from rfl] at xh14
    refine wk_ifeq r240_17 ⟨by omega, by omega⟩ ?_ ?_
    · intro h18
      refine wk_al0 r240_22 (wk_c8 r240_23 (wk_cv2 r240_25 kc_9_239 rfl (n7239_9 _ M0 4130 x9_1 x9_3 T hP0 (by decide) ex9_1 (by first | with_reducible assumption | omega) (by first | with_reducible assumption | omega) ex9_3 (by first | with_reducible assumption | omega) (by first | with_reducible assumption | omega) (by first | assumption | omega | (unfold stepok; omega)) pp_TX pp_TC) (cqI ?_)))
      rintro v24 M19 ⟨hP20, hQ21, h25, h26, xh23⟩
      obtain rfl := Fr.same hQ21
      rw [show wix 4130 = 2 from rfl] at xh23
      refine wk_ifeq r240_28 ⟨by omega, by omega⟩ ?_ ?_
      · intro h27
        refine wk_al0 r240_33 (wk_c8 r240_34 (wk_cv2 r240_36 kc_9_239 rfl (n7239_9 _ M0 4131 x9_1 x9_3 T hP0 (by decide) ex9_1 (by first | with_reducible assumption | omega) (by first | with_reducible assumption | omega) ex9_3 (by first | with_reducible assumption | omega) (by first | with_reducible assumption | omega) (by first | assumption | omega | (unfold stepok; omega)) pp_TX pp_TC) (cqI ?_)))
        rintro v33 M28 ⟨hP29, hQ30, h34, h35, xh32⟩
        obtain rfl := Fr.same hQ30
        rw [show wix 4131 = 3 from rfl] at xh32
        refine wk_ifeq r240_39 ⟨by omega, by omega⟩ ?_ ?_
        · intro h36
          refine wk_al0 r240_44 (wk_c8 r240_45 (wk_cv2 r240_47 kc_9_239 rfl (n7239_9 _ M0 4132 x9_1 x9_3 T hP0 (by decide) ex9_1 (by first | with_reducible assumption | omega) (by first | with_reducible assumption | omega) ex9_3 (by first | with_reducible assumption | omega) (by first | with_reducible assumption | omega) (by first | assumption | omega | (unfold stepok; omega)) pp_TX pp_TC) (cqI ?_)))
          rintro v42 M37 ⟨hP38, hQ39, h43, h44, xh41⟩
          obtain rfl := Fr.same hQ39
          rw [show wix 4132 = 4 from rfl] at xh41
          refine wk_ifeq r240_50 ⟨by omega, by omega⟩ ?_ ?_
          · intro h45
            refine wk_c1 r240_57 ?_
            subst hQ; exact wk_iret r240_58 (⟨rfl, _, rfl, hP0, hF0, by omega, by omega, by have := kdI_c T x9_1 x9_3; omega⟩)
          · intro h46
            refine wk_c1 r240_53 (wk_goto r240_54 ?_)
            subst hQ; exact wk_iret r240_58 (⟨rfl, _, rfl, hP0, hF0, by omega, by omega, by have := kdI_c T x9_1 x9_3; omega⟩)
        · intro h47
          refine wk_c1 r240_42 ?_
          subst hQ; exact wk_iret r240_43 (⟨rfl, _, rfl, hP0, hF0, by omega, by omega, by have := kdI_c T x9_1 x9_3; omega⟩)
      · intro h48
        refine wk_c1 r240_31 ?_
        subst hQ; exact wk_iret r240_32 (⟨rfl, _, rfl, hP0, hF0, by omega, by omega, by have := kdI_c T x9_1 x9_3; omega⟩)
    · intro h49
      refine wk_c1 r240_20 ?_
      subst hQ; exact wk_iret r240_21 (⟨rfl, _, rfl, hP0, hF0, by omega, by omega, by have := kdI_c T x9_1 x9_3; omega⟩)
  · intro h50
    refine wk_c1 r240_9 ?_
    subst hQ; exact wk_iret r240_10 (⟨rfl, _, rfl, hP0, hF0, by omega, by omega, by have := kdI_c T x9_1 x9_3; omega⟩)
def fm_n7173_6 : Nat := 3941061990809600
/-- IslandHall$Parser.takeKind -/
theorem n7173_6 {B : eB} (d : Nat) (M0 : Mm) (x9_1 : Int) (x9_3 : Int) (x9_2 : Int) (x6_4 : Int) (x6_5 : Int) (T : Int → Int) (hP0 : Pw M0) (ex9_1 : M0 9 1 = x9_1) (lx9_1 : 0 ≤ x9_1) (ux9_1 : x9_1 ≤ 500) (ex9_3 : M0 9 3 = x9_3) (lx9_3 : 0 ≤ x9_3) (ux9_3 : x9_3 ≤ 500) (ex9_2 : M0 9 2 = x9_2) (lx9_2 : 0 ≤ x9_2) (ux9_2 : x9_2 ≤ 500) (ex6_4 : M0 6 4 = x6_4) (lx6_4 : 0 ≤ x6_4) (ux6_4 : x6_4 ≤ 6) (ex6_5 : M0 6 5 = x6_5) (lx6_5 : (-1) ≤ x6_5) (ux6_5 : x6_5 ≤ 500) (rp0 : 0 ≤ x9_1 + (-1) * x9_2) (rp1 : 0 ≤ x9_2 + (-1) * x9_3) (rp2 : 0 ≤ x9_1 + (-1) * x9_3) (pp_TX : TXP T M0) (pp_TC : TCP T M0) : Ct B (d + 4) 173 [R 6] M0 (qI fun z M => Pw M ∧ Fr fm_n7173_6 M0 M ∧ (-1) ≤ z ∧ z ≤ 4 ∧ 0 ≤ M 9 3 + (-1) * x9_3 ∧ 0 ≤ x9_1 + (-1) * (M 9 3) ∧ 0 ≤ x9_1 + (-1) * (M 9 2) ∧ 0 ≤ M 9 2 + (-1) * (M 9 3) ∧ 0 ≤ M 6 4 ∧ 0 ≤ M 6 5 + 1 ∧ ((z = kdI T x9_1 x9_3 ∧ kdE T x9_1 x9_3 = 0 ∧ M 9 3 = nx T x9_1 x9_3 ∧ M 6 4 = x6_4 ∧ M 6 5 = x6_5 ∧ x9_3 + 1 ≤ M 9 3 ∧ 0 ≤ z) ∨ (z = -1 ∧ kdE T x9_1 x9_3 ≠ 0 ∧ M 9 3 = x9_3 ∧ M 6 4 = kdE T x9_1 x9_3 ∧ M 6 5 = x9_3)) ∧ (TXP T M) ∧ (TCP T M)) := by
  refine ct_of (d := d + 3) (k := 1) (L := [some (R 6), none]) rfl rfl rfl ?_
  have hF0 := Fr.rf fm_n7173_6 M0
  generalize hQ : (qI fun z M => Pw M ∧ Fr fm_n7173_6 M0 M ∧ (-1) ≤ z ∧ z ≤ 4 ∧ 0 ≤ M 9 3 + (-1) * x9_3 ∧ 0 ≤ x9_1 + (-1) * (M 9 3) ∧ 0 ≤ x9_1 + (-1) * (M 9 2) ∧ 0 ≤ M 9 2 + (-1) * (M 9 3) ∧ 0 ≤ M 6 4 ∧ 0 ≤ M 6 5 + 1 ∧ ((z = kdI T x9_1 x9_3 ∧ kdE T x9_1 x9_3 = 0 ∧ M 9 3 = nx T x9_1 x9_3 ∧ M 6 4 = x6_4 ∧ M 6 5 = x6_5 ∧ x9_3 + 1 ≤ M 9 3 ∧ 0 ≤ z) ∨ (z = -1 ∧ kdE T x9_1 x9_3 ≠ 0 ∧ M 9 3 = x9_3 ∧ M 6 4 = kdE T x9_1 x9_3 ∧ M 6 5 = x9_3)) ∧ (TXP T M) ∧ (TCP T M)) = Q
  have hTC := pp_TC
  unfold TCP at hTC
  rw [ex9_1, ex9_3] at hTC
  have hlt := tt_lt T x9_1 x9_3
  refine wk_al0 r173_0 (wk_getfr r173_1 fd_6_0 (br_6_0 hP0) (wk_cv1 r173_4 kc_9_240 rfl (n7240_9 _ M0 x9_1 x9_3 T hP0 ex9_1 (by first | with_reducible assumption | omega) (by first | with_reducible assumption | omega) ex9_3 (by first | with_reducible assumption | omega) (by first | with_reducible assumption | omega) pp_TX pp_TC) (cqI ?_)))
  rintro v6 M1 ⟨hP2, hQ3, h7, h8, xh5⟩
  obtain rfl := Fr.same hQ3
  refine wk_is1 r173_7 rfl (wk_il1 r173_8 (wk_c1 r173_9 ?_))
  refine wk_icne r173_10 ⟨by omega, by omega⟩ (by decide) ?_ ?_
  · intro h9
    refine wk_al0 r173_36 (wk_getfr r173_37 fd_6_0 (br_6_0 hP0) (wk_cv1 r173_40 kc_9_241 rfl (n7241_9 _ M0 x9_1 x9_2 T hP0 ex9_1 (by first | with_reducible assumption | omega) (by first | with_reducible assumption | omega) ex9_2 (by first | with_reducible assumption | omega) (by first | with_reducible assumption | omega) (by omega) pp_TX) (cqV ?_)))
    rintro M10 ⟨hP11, hQ12, h14, h15, h16, h17, xh18, pr19, pr20⟩
    have hF13 : Fr fm_n7173_6 M0 M10 := hF0.tr hQ12 rfl
    obtain ⟨v21, e22⟩ : ∃ v, M10 9 3 = v := ⟨_, rfl⟩
    have h23 := (bf_9_3 hP11).1; rw [e22] at h23
    have h24 := (bf_9_3 hP11).2; rw [e22] at h24
    obtain ⟨v25, e26⟩ : ∃ v, M10 9 2 = v := ⟨_, rfl⟩
    have h27 := (bf_9_2 hP11).1; rw [e26] at h27
    have h28 := (bf_9_2 hP11).2; rw [e26] at h28
    have hn29 := nx_of pp_TC ex9_1 ex9_3 ex9_2 xh18
    refine wk_il1 r173_43 ?_
    subst hQ; exact wk_iret r173_44 (⟨rfl, _, rfl, hP11, hF13, by omega, by omega, by have := e22; omega, by have := e22; omega, by have := e26; omega, by have := e26; have := e22; omega, by have := ((hQ12.at g_6_4 rfl).trans ex6_4); omega, by have := ((hQ12.at g_6_5 rfl).trans ex6_5); omega, by have := e22; have := e26; have := ((hQ12.at g_6_4 rfl).trans ex6_4); have := ((hQ12.at g_6_5 rfl).trans ex6_5); have := kdI_c T x9_1 x9_3; have := tt_lt T x9_1 x9_3; have := nx_lt (T := T) (n := x9_1) (s := x9_3) (by omega); omega, pr19, pr20⟩)
  · intro h30
    refine wk_al0 r173_13 (wk_al0 r173_14 (wk_getfr r173_15 fd_6_0 (br_6_0 hP0) (wk_getfb r173_18 fd_9_4 (bf_9_4 hP0) ?_)))
    intro v31 h33 h34 e32
    refine wk_c1 r173_21 ?_
    refine wk_icne r173_22 ⟨by omega, by omega⟩ (by decide) ?_ ?_
    · intro h35
      refine wk_c1 r173_29 (wk_cv2 r173_30 kc_6_159 rfl (n7159_6 _ M0 1 x9_3 hP0 (by decide) (by decide) ex9_3 (by first | with_reducible assumption | omega) (by first | with_reducible assumption | omega)) (cqI ?_))
      rintro v44 M36 ⟨hP37, hQ38, h45, h46, h40, h41, h42, h43⟩
      have hF39 : Fr fm_n7173_6 M0 M36 := hF0.tr hQ38 rfl
      obtain ⟨v47, e48⟩ : ∃ v, M36 6 4 = v := ⟨_, rfl⟩
      have h49 := (bf_6_4 hP37).1; rw [e48] at h49
      have h50 := (bf_6_4 hP37).2; rw [e48] at h50
      obtain ⟨v51, e52⟩ : ∃ v, M36 6 5 = v := ⟨_, rfl⟩
      have h53 := (bf_6_5 hP37).1; rw [e52] at h53
      have h54 := (bf_6_5 hP37).2; rw [e52] at h54
      refine wk_popi r173_33 (wk_c1 r173_34 ?_)
      subst hQ; exact wk_iret r173_35 (⟨rfl, _, rfl, hP37, hF39, by omega, by omega, by have := ((hQ38.at g_9_3 rfl).trans ex9_3); omega, by have := ((hQ38.at g_9_3 rfl).trans ex9_3); omega, by have := ((hQ38.at g_9_2 rfl).trans ex9_2); omega, by have := ((hQ38.at g_9_2 rfl).trans ex9_2); have := ((hQ38.at g_9_3 rfl).trans ex9_3); omega, by have := e48; omega, by have := e52; omega, by have := ((hQ38.at g_9_3 rfl).trans ex9_3); have := ((hQ38.at g_9_2 rfl).trans ex9_2); have := e48; have := e52; have := kdI_c T x9_1 x9_3; have := tt_lt T x9_1 x9_3; have := nx_lt (T := T) (n := x9_1) (s := x9_3) (by omega); omega, (TXP_sm (Sm.fr hQ38 rfl) pp_TX), (TCP_sm (Sm.fr hQ38 rfl) pp_TC)⟩)
    · intro h55
      refine wk_c1 r173_25 (wk_goto r173_26 (wk_cv2 r173_30 kc_6_159 rfl (n7159_6 _ M0 3 x9_3 hP0 (by decide) (by decide) ex9_3 (by first | with_reducible assumption | omega) (by first | with_reducible assumption | omega)) (cqI ?_)))
      rintro v64 M56 ⟨hP57, hQ58, h65, h66, h60, h61, h62, h63⟩
      have hF59 : Fr fm_n7173_6 M0 M56 := hF0.tr hQ58 rfl
      obtain ⟨v67, e68⟩ : ∃ v, M56 6 4 = v := ⟨_, rfl⟩
      have h69 := (bf_6_4 hP57).1; rw [e68] at h69
      have h70 := (bf_6_4 hP57).2; rw [e68] at h70
      obtain ⟨v71, e72⟩ : ∃ v, M56 6 5 = v := ⟨_, rfl⟩
      have h73 := (bf_6_5 hP57).1; rw [e72] at h73
      have h74 := (bf_6_5 hP57).2; rw [e72] at h74
      refine wk_popi r173_33 (wk_c1 r173_34 ?_)
      subst hQ; exact wk_iret r173_35 (⟨rfl, _, rfl, hP57, hF59, by omega, by omega, by have := ((hQ58.at g_9_3 rfl).trans ex9_3); omega, by have := ((hQ58.at g_9_3 rfl).trans ex9_3); omega, by have := ((hQ58.at g_9_2 rfl).trans ex9_2); omega, by have := ((hQ58.at g_9_2 rfl).trans ex9_2); have := ((hQ58.at g_9_3 rfl).trans ex9_3); omega, by have := e68; omega, by have := e72; omega, by have := ((hQ58.at g_9_3 rfl).trans ex9_3); have := ((hQ58.at g_9_2 rfl).trans ex9_2); have := e68; have := e72; have := kdI_c T x9_1 x9_3; have := tt_lt T x9_1 x9_3; have := nx_lt (T := T) (n := x9_1) (s := x9_3) (by omega); omega, (TXP_sm (Sm.fr hQ58 rfl) pp_TX), (TCP_sm (Sm.fr hQ58 rfl) pp_TC)⟩)
def fm_n7244_9 : Nat := 0
/-- IslandHall$Tokens.value -/
theorem n7244_9 {B : eB} (d : Nat) (M0 : Mm) (x9_1 : Int) (x9_3 : Int) (x9_2 : Int) (T : Int → Int) (hP0 : Pw M0) (ex9_1 : M0 9 1 = x9_1) (lx9_1 : 0 ≤ x9_1) (ux9_1 : x9_1 ≤ 500) (ex9_3 : M0 9 3 = x9_3) (lx9_3 : 0 ≤ x9_3) (ux9_3 : x9_3 ≤ 500) (ex9_2 : M0 9 2 = x9_2) (lx9_2 : 0 ≤ x9_2) (ux9_2 : x9_2 ≤ 500) (rp0 : 0 ≤ x9_1 + (-1) * x9_2) (rp1 : 0 ≤ x9_2 + (-1) * x9_3) (xp0 : tt T x9_1 x9_3 = 2) (pp_TX : TXP T M0) (pp_TC : TCP T M0) : Ct B (d + 1) 244 [R 9] M0 (qI fun z M => Pw M ∧ Fr fm_n7244_9 M0 M ∧ (-1) ≤ z ∧ z ≤ 999 ∧ (z = vlI T x9_1 x9_3)) := by
  refine ct_of (d := d + 0) (k := 2) (L := [some (R 9), none, none]) rfl rfl rfl ?_
  have hF0 := Fr.rf fm_n7244_9 M0
  generalize hQ : (qI fun z M => Pw M ∧ Fr fm_n7244_9 M0 M ∧ (-1) ≤ z ∧ z ≤ 999 ∧ (z = vlI T x9_1 x9_3)) = Q
  have hTC := pp_TC
  unfold TCP at hTC
  rw [ex9_1, ex9_3] at hTC
  have hlt := tt_lt T x9_1 x9_3
  have hdig := dig_of pp_TC ex9_1 ex9_3 xp0
  have hvc := vlI_c T x9_1 x9_3
  have hr := ee_r (T := T) (n := x9_1) (s := x9_3) (by omega)
  refine wk_al0 r244_0 (wk_getfi r244_1 fd_9_2 ex9_2 (wk_al0 r244_4 (wk_getfi r244_5 fd_9_3 ex9_3 (wk_isub r244_8 (wk_c1 r244_9 ?_)))))
  refine wk_icle r244_10 ⟨by omega, by omega⟩ (by decide) ?_ ?_
  · intro h1
    refine wk_c1 r244_15 (wk_is1 r244_16 rfl (wk_al0 r244_17 (wk_getfi r244_18 fd_9_3 ex9_3 (wk_is2 r244_21 rfl ?_))))
    have c22_70 : ∀ (k70 : Nat) (v53 : Int) (v56 : Int), (500 - v56).toNat = k70 → 0 ≤ v53 → v53 ≤ 999 → 0 ≤ v56 → v56 ≤ 500 → 0 ≤ v56 + (-1) * x9_3 → 0 ≤ x9_2 + (-1) * v56 → (v53 = vl T x9_3 (v56 - x9_3).toNat) → Wp B (d + 0) 244 22 [some (R 9), some (I v53), some (I v56)] [] M0 Q := by
      refine lp_ind ?_
      intro k70 ih70 v53 v56 hk70 h54 h55 h57 h58 h59 h60 ti61
      refine wk_il2 r244_22 (wk_al0 r244_23 (wk_getfi r244_24 fd_9_2 ex9_2 ?_))
      refine wk_icge r244_27 ⟨by omega, by omega⟩ ⟨by omega, by omega⟩ ?_ ?_
      · intro h62
        refine wk_il1 r244_51 ?_
        subst hQ; exact wk_iret r244_52 (⟨rfl, _, rfl, hP0, hF0, by omega, by omega, by have h9 := ti61; rw [show (v56 - x9_3).toNat = (ee T x9_1 x9_3 - x9_3).toNat by omega] at h9; omega⟩)
      · intro h63
        have h64 : 0 ≤ v53 ∧ v53 ≤ 99 := by have q9 := vl_b (T := T) (s := x9_3) (v56 - x9_3).toNat (fun q a b => hdig q a (by omega)); have := q9.2.2.1 (by omega); have := ti61; omega
        refine wk_c2 r244_30 (wk_il1 r244_32 (wk_imul r244_33 (wk_al0 r244_34 (wk_getfr r244_35 fd_9_0 (br_9_0 hP0) (wk_il2 r244_38 (wk_baldb r244_39 ar_1 ⟨by omega, by omega⟩ (fun q0 q1 => ba_1 hP0 q0 q1) ?_))))))
        intro v65 h67 h68 e66
        have h69 : v65 = T v56 ∧ 48 ≤ v65 ∧ v65 ≤ 57 := by have q9 := pp_TX v56 (by omega) (by rw [ex9_1]; omega); rw [e66] at q9; have := hdig v56 (by omega) (by omega); omega
        refine wk_c2 r244_40 (wk_isub r244_42 (wk_iadd r244_43 (wk_is1 r244_44 rfl (wk_inc2 r244_45 rfl (wk_goto r244_48 ?_)))))
        exact wp_fg (le_s (le_s (le_s le_0))) (ih70 (500 - (v56 + 1)).toNat (by omega) ((10 * v53) + (v65 - 48)) (v56 + 1) rfl (by first | with_reducible assumption | omega) (by first | with_reducible assumption | omega) (by first | with_reducible assumption | omega) (by first | with_reducible assumption | omega) (by first | with_reducible assumption | omega) (by first | with_reducible assumption | omega) (by rw [vl_s (by omega)]; omega))
    exact wp_fg (le_s (le_s (le_s le_0))) (c22_70 _ 0 x9_3 rfl (by first | with_reducible assumption | omega) (by first | with_reducible assumption | omega) (by first | with_reducible assumption | omega) (by first | with_reducible assumption | omega) (by first | with_reducible assumption | omega) (by first | with_reducible assumption | omega) (by rw [Int.sub_self]; rfl))
  · intro h71
    refine wk_c1 r244_13 ?_
    subst hQ; exact wk_iret r244_14 (⟨rfl, _, rfl, hP0, hF0, by omega, by omega, by omega⟩)
def fm_n7167_6 : Nat := 3941061990809600
/-- IslandHall$Parser.number -/
theorem n7167_6 {B : eB} (d : Nat) (M0 : Mm) (p1 : Int) (p2 : Int) (x9_1 : Int) (x9_3 : Int) (x9_2 : Int) (x6_4 : Int) (x6_5 : Int) (T : Int → Int) (hP0 : Pw M0) (l1 : 0 ≤ p1) (u1 : p1 ≤ 1) (l2 : 1 ≤ p2) (u2 : p2 ≤ 99) (ex9_1 : M0 9 1 = x9_1) (lx9_1 : 0 ≤ x9_1) (ux9_1 : x9_1 ≤ 500) (ex9_3 : M0 9 3 = x9_3) (lx9_3 : 0 ≤ x9_3) (ux9_3 : x9_3 ≤ 500) (ex9_2 : M0 9 2 = x9_2) (lx9_2 : 0 ≤ x9_2) (ux9_2 : x9_2 ≤ 500) (ex6_4 : M0 6 4 = x6_4) (lx6_4 : 0 ≤ x6_4) (ux6_4 : x6_4 ≤ 6) (ex6_5 : M0 6 5 = x6_5) (lx6_5 : (-1) ≤ x6_5) (ux6_5 : x6_5 ≤ 500) (rp0 : 0 ≤ x9_1 + (-1) * x9_2) (rp1 : 0 ≤ x9_2 + (-1) * x9_3) (rp2 : 0 ≤ x9_1 + (-1) * x9_3) (pp_TX : TXP T M0) (pp_TC : TCP T M0) : Ct B (d + 3) 167 [R 6, I p1, I p2] M0 (qI fun z M => Pw M ∧ Fr fm_n7167_6 M0 M ∧ (-1) ≤ z ∧ z ≤ 99 ∧ 0 ≤ M 9 3 + (-1) * x9_3 ∧ 0 ≤ x9_1 + (-1) * (M 9 3) ∧ 0 ≤ x9_1 + (-1) * (M 9 2) ∧ 0 ≤ M 9 2 + (-1) * (M 9 3) ∧ 0 ≤ M 6 4 ∧ 0 ≤ M 6 5 + 1 ∧ 0 ≤ p2 + (-1) * z ∧ ((z = vlI T x9_1 x9_3 ∧ nuE T x9_1 x9_3 p1 p2 = 0 ∧ M 9 3 = nx T x9_1 x9_3 ∧ M 6 4 = x6_4 ∧ M 6 5 = x6_5 ∧ x9_3 + 1 ≤ M 9 3 ∧ 0 ≤ z) ∨ (z = -1 ∧ nuE T x9_1 x9_3 p1 p2 ≠ 0 ∧ M 9 3 = x9_3 ∧ M 6 4 = nuE T x9_1 x9_3 p1 p2 ∧ M 6 5 = x9_3)) ∧ (TXP T M) ∧ (TCP T M)) := by
  refine ct_of (d := d + 2) (k := 1) (L := [some (R 6), some (I p1), some (I p2), none]) rfl rfl rfl ?_
  have hF0 := Fr.rf fm_n7167_6 M0
  generalize hQ : (qI fun z M => Pw M ∧ Fr fm_n7167_6 M0 M ∧ (-1) ≤ z ∧ z ≤ 99 ∧ 0 ≤ M 9 3 + (-1) * x9_3 ∧ 0 ≤ x9_1 + (-1) * (M 9 3) ∧ 0 ≤ x9_1 + (-1) * (M 9 2) ∧ 0 ≤ M 9 2 + (-1) * (M 9 3) ∧ 0 ≤ M 6 4 ∧ 0 ≤ M 6 5 + 1 ∧ 0 ≤ p2 + (-1) * z ∧ ((z = vlI T x9_1 x9_3 ∧ nuE T x9_1 x9_3 p1 p2 = 0 ∧ M 9 3 = nx T x9_1 x9_3 ∧ M 6 4 = x6_4 ∧ M 6 5 = x6_5 ∧ x9_3 + 1 ≤ M 9 3 ∧ 0 ≤ z) ∨ (z = -1 ∧ nuE T x9_1 x9_3 p1 p2 ≠ 0 ∧ M 9 3 = x9_3 ∧ M 6 4 = nuE T x9_1 x9_3 p1 p2 ∧ M 6 5 = x9_3)) ∧ (TXP T M) ∧ (TCP T M)) = Q
  have hTC := pp_TC
  unfold TCP at hTC
  rw [ex9_1, ex9_3] at hTC
  have hlt := tt_lt T x9_1 x9_3
  refine wk_al0 r167_0 (wk_getfr r167_1 fd_6_0 (br_6_0 hP0) (wk_getfb r167_4 fd_9_4 (bf_9_4 hP0) ?_))
  intro v1 h3 h4 e2
  refine wk_c1 r167_7 ?_
  refine wk_iceq r167_8 ⟨by omega, by omega⟩ (by decide) ?_ ?_
  · intro h5
    refine wk_al0 r167_19 (wk_getfr r167_20 fd_6_0 (br_6_0 hP0) (wk_cv1 r167_23 kc_9_244 rfl (n7244_9 _ M0 x9_1 x9_3 x9_2 T hP0 ex9_1 (by first | with_reducible assumption | omega) (by first | with_reducible assumption | omega) ex9_3 (by first | with_reducible assumption | omega) (by first | with_reducible assumption | omega) ex9_2 (by first | with_reducible assumption | omega) (by first | with_reducible assumption | omega) (by omega) (by omega) (by first | assumption | omega | (unfold stepok; omega)) pp_TX pp_TC) (cqI ?_)))
    rintro v11 M6 ⟨hP7, hQ8, h12, h13, xh10⟩
    obtain rfl := Fr.same hQ8
    refine wk_is3 r167_26 rfl (wk_il3 r167_27 (wk_il1 r167_28 ?_))
    refine wk_iclt r167_29 ⟨by omega, by omega⟩ ⟨by omega, by omega⟩ ?_ ?_
    · intro h14
      refine wk_al0 r167_37 (wk_c1 r167_38 (wk_cv2 r167_39 kc_6_159 rfl (n7159_6 _ M0 2 x9_3 hP0 (by decide) (by decide) ex9_3 (by first | with_reducible assumption | omega) (by first | with_reducible assumption | omega)) (cqI ?_)))
      rintro v23 M15 ⟨hP16, hQ17, h24, h25, h19, h20, h21, h22⟩
      have hF18 : Fr fm_n7167_6 M0 M15 := hF0.tr hQ17 rfl
      obtain ⟨v26, e27⟩ : ∃ v, M15 6 4 = v := ⟨_, rfl⟩
      have h28 := (bf_6_4 hP16).1; rw [e27] at h28
      have h29 := (bf_6_4 hP16).2; rw [e27] at h29
      obtain ⟨v30, e31⟩ : ∃ v, M15 6 5 = v := ⟨_, rfl⟩
      have h32 := (bf_6_5 hP16).1; rw [e31] at h32
      have h33 := (bf_6_5 hP16).2; rw [e31] at h33
      refine wk_popi r167_42 (wk_c1 r167_43 ?_)
      subst hQ; exact wk_iret r167_44 (⟨rfl, _, rfl, hP16, hF18, by omega, by omega, by have := ((hQ17.at g_9_3 rfl).trans ex9_3); omega, by have := ((hQ17.at g_9_3 rfl).trans ex9_3); omega, by have := ((hQ17.at g_9_2 rfl).trans ex9_2); omega, by have := ((hQ17.at g_9_2 rfl).trans ex9_2); have := ((hQ17.at g_9_3 rfl).trans ex9_3); omega, by have := e27; omega, by have := e31; omega, by omega, by have := ((hQ17.at g_9_3 rfl).trans ex9_3); have := ((hQ17.at g_9_2 rfl).trans ex9_2); have := e27; have := e31; have := nuE_c T x9_1 x9_3 p1 p2; have := vlI_c T x9_1 x9_3; have := tt_lt T x9_1 x9_3; have := nx_lt (T := T) (n := x9_1) (s := x9_3) (by omega); omega, (TXP_sm (Sm.fr hQ17 rfl) pp_TX), (TCP_sm (Sm.fr hQ17 rfl) pp_TC)⟩)
    · intro h34
      refine wk_il3 r167_32 (wk_il2 r167_33 ?_)
      refine wk_icle r167_34 ⟨by omega, by omega⟩ ⟨by omega, by omega⟩ ?_ ?_
      · intro h35
        refine wk_al0 r167_45 (wk_getfr r167_46 fd_6_0 (br_6_0 hP0) (wk_cv1 r167_49 kc_9_241 rfl (n7241_9 _ M0 x9_1 x9_2 T hP0 ex9_1 (by first | with_reducible assumption | omega) (by first | with_reducible assumption | omega) ex9_2 (by first | with_reducible assumption | omega) (by first | with_reducible assumption | omega) (by omega) pp_TX) (cqV ?_)))
        rintro M36 ⟨hP37, hQ38, h40, h41, h42, h43, xh44, pr45, pr46⟩
        have hF39 : Fr fm_n7167_6 M0 M36 := hF0.tr hQ38 rfl
        obtain ⟨v47, e48⟩ : ∃ v, M36 9 3 = v := ⟨_, rfl⟩
        have h49 := (bf_9_3 hP37).1; rw [e48] at h49
        have h50 := (bf_9_3 hP37).2; rw [e48] at h50
        obtain ⟨v51, e52⟩ : ∃ v, M36 9 2 = v := ⟨_, rfl⟩
        have h53 := (bf_9_2 hP37).1; rw [e52] at h53
        have h54 := (bf_9_2 hP37).2; rw [e52] at h54
        have hn55 := nx_of pp_TC ex9_1 ex9_3 ex9_2 xh44
        refine wk_il3 r167_52 ?_
        subst hQ; exact wk_iret r167_53 (⟨rfl, _, rfl, hP37, hF39, by omega, by omega, by have := e48; omega, by have := e48; omega, by have := e52; omega, by have := e52; have := e48; omega, by have := ((hQ38.at g_6_4 rfl).trans ex6_4); omega, by have := ((hQ38.at g_6_5 rfl).trans ex6_5); omega, by omega, by have := e48; have := e52; have := ((hQ38.at g_6_4 rfl).trans ex6_4); have := ((hQ38.at g_6_5 rfl).trans ex6_5); have := nuE_c T x9_1 x9_3 p1 p2; have := vlI_c T x9_1 x9_3; have := tt_lt T x9_1 x9_3; have := nx_lt (T := T) (n := x9_1) (s := x9_3) (by omega); omega, pr45, pr46⟩)
      · intro h56
        refine wk_al0 r167_37 (wk_c1 r167_38 (wk_cv2 r167_39 kc_6_159 rfl (n7159_6 _ M0 2 x9_3 hP0 (by decide) (by decide) ex9_3 (by first | with_reducible assumption | omega) (by first | with_reducible assumption | omega)) (cqI ?_)))
        rintro v65 M57 ⟨hP58, hQ59, h66, h67, h61, h62, h63, h64⟩
        have hF60 : Fr fm_n7167_6 M0 M57 := hF0.tr hQ59 rfl
        obtain ⟨v68, e69⟩ : ∃ v, M57 6 4 = v := ⟨_, rfl⟩
        have h70 := (bf_6_4 hP58).1; rw [e69] at h70
        have h71 := (bf_6_4 hP58).2; rw [e69] at h71
        obtain ⟨v72, e73⟩ : ∃ v, M57 6 5 = v := ⟨_, rfl⟩
        have h74 := (bf_6_5 hP58).1; rw [e73] at h74
        have h75 := (bf_6_5 hP58).2; rw [e73] at h75
        refine wk_popi r167_42 (wk_c1 r167_43 ?_)
        subst hQ; exact wk_iret r167_44 (⟨rfl, _, rfl, hP58, hF60, by omega, by omega, by have := ((hQ59.at g_9_3 rfl).trans ex9_3); omega, by have := ((hQ59.at g_9_3 rfl).trans ex9_3); omega, by have := ((hQ59.at g_9_2 rfl).trans ex9_2); omega, by have := ((hQ59.at g_9_2 rfl).trans ex9_2); have := ((hQ59.at g_9_3 rfl).trans ex9_3); omega, by have := e69; omega, by have := e73; omega, by omega, by have := ((hQ59.at g_9_3 rfl).trans ex9_3); have := ((hQ59.at g_9_2 rfl).trans ex9_2); have := e69; have := e73; have := nuE_c T x9_1 x9_3 p1 p2; have := vlI_c T x9_1 x9_3; have := tt_lt T x9_1 x9_3; have := nx_lt (T := T) (n := x9_1) (s := x9_3) (by omega); omega, (TXP_sm (Sm.fr hQ59 rfl) pp_TX), (TCP_sm (Sm.fr hQ59 rfl) pp_TC)⟩)
  · intro h76
    refine wk_al0 r167_11 (wk_c1 r167_12 (wk_cv2 r167_13 kc_6_159 rfl (n7159_6 _ M0 1 x9_3 hP0 (by decide) (by decide) ex9_3 (by first | with_reducible assumption | omega) (by first | with_reducible assumption | omega)) (cqI ?_)))
    rintro v85 M77 ⟨hP78, hQ79, h86, h87, h81, h82, h83, h84⟩
    have hF80 : Fr fm_n7167_6 M0 M77 := hF0.tr hQ79 rfl
    obtain ⟨v88, e89⟩ : ∃ v, M77 6 4 = v := ⟨_, rfl⟩
    have h90 := (bf_6_4 hP78).1; rw [e89] at h90
    have h91 := (bf_6_4 hP78).2; rw [e89] at h91
    obtain ⟨v92, e93⟩ : ∃ v, M77 6 5 = v := ⟨_, rfl⟩
    have h94 := (bf_6_5 hP78).1; rw [e93] at h94
    have h95 := (bf_6_5 hP78).2; rw [e93] at h95
    refine wk_popi r167_16 (wk_c1 r167_17 ?_)
    subst hQ; exact wk_iret r167_18 (⟨rfl, _, rfl, hP78, hF80, by omega, by omega, by have := ((hQ79.at g_9_3 rfl).trans ex9_3); omega, by have := ((hQ79.at g_9_3 rfl).trans ex9_3); omega, by have := ((hQ79.at g_9_2 rfl).trans ex9_2); omega, by have := ((hQ79.at g_9_2 rfl).trans ex9_2); have := ((hQ79.at g_9_3 rfl).trans ex9_3); omega, by have := e89; omega, by have := e93; omega, by omega, by have := ((hQ79.at g_9_3 rfl).trans ex9_3); have := ((hQ79.at g_9_2 rfl).trans ex9_2); have := e89; have := e93; have := nuE_c T x9_1 x9_3 p1 p2; have := vlI_c T x9_1 x9_3; have := tt_lt T x9_1 x9_3; have := nx_lt (T := T) (n := x9_1) (s := x9_3) (by omega); omega, (TXP_sm (Sm.fr hQ79 rfl) pp_TX), (TCP_sm (Sm.fr hQ79 rfl) pp_TC)⟩)
def fm_n7138 : Nat := 4831838208
/-- IslandHall$Code.add -/
theorem n7138 {B : eB} (d : Nat) (M0 : Mm) (c0 : Int) (p1 : Int) (p2 : Int) (hP0 : Pw M0) (hC0 : isC c0) (l1 : 0 ≤ p1) (u1 : p1 ≤ 6) (l2 : 0 ≤ p2) (u2 : p2 ≤ 1279) (xp0 : stepok (p1 + 8 * p2)) : Ct B (d + 1) 138 [R c0, I p1, I p2] M0 (qV fun M => Pw M ∧ Fr fm_n7138 M0 M ∧ (∀ c : Int, isC c → c ≠ c0 → CL M c = CL M0 c) ∧ (M0 c0 1 < 256 → CL M c0 = CL M0 c0 ++ [p1 + 8 * p2])) := by
  refine ct_of (d := d + 0) (k := 0) (L := [some (R c0), some (I p1), some (I p2)]) rfl rfl rfl ?_
  have hF0 := Fr.rf fm_n7138 M0
  generalize hQ : (qV fun M => Pw M ∧ Fr fm_n7138 M0 M ∧ (∀ c : Int, isC c → c ≠ c0 → CL M c = CL M0 c) ∧ (M0 c0 1 < 256 → CL M c0 = CL M0 c0 ++ [p1 + 8 * p2])) = Q
  refine wk_al0 r138_0 (wk_getfb r138_1 (fdC_1 hC0) (bC_1 hP0 hC0) ?_)
  intro v1 h3 h4 e2
  refine wk_al0 r138_4 (wk_getfr r138_5 (fdC_0 hC0) (bC_0 hP0 hC0) (wk_alen r138_8 (arC hC0) (by decide) ?_))
  refine wk_icge r138_9 ⟨by omega, by omega⟩ (by decide) ?_ ?_
  · intro h5
    subst hQ; exact wk_ret r138_36 (⟨rfl, hP0, hF0, fun _ _ _ => rfl, fun q => absurd q (by have := e2; omega)⟩)
  · intro h6
    refine wk_al0 r138_12 (wk_getfr r138_13 (fdC_0 hC0) (bC_0 hP0 hC0) (wk_al0 r138_16 (wk_getfi r138_17 (fdC_1 hC0) e2 (wk_il1 r138_20 (wk_il2 r138_21 (wk_c1 r138_22 (wk_ishlc r138_23 (by decide) pwl_3 (wk_iord 3 8 r138_24 (by decide) ⟨by omega, by omega⟩ ⟨by omega, by omega, by omega⟩ ?_))))))))
    refine wk_iast r138_25 (arC hC0) ⟨by omega, by omega⟩ (wk_nw (g_cs hC0 _) rfl hP0 hF0 (uaC hC0 (by unfold stepok at *; omega)) ?_)
    intro M7 hP8 hF9 e10
    refine wk_al0 r138_26 (wk_dupr r138_27 (wk_getfi r138_28 (fdC_1 hC0) (mUp_no e10 e2 (Or.inl (by omega))) (wk_c1 r138_31 (wk_iadd r138_32 (wk_putfi81 r138_33 (fdC_1 hC0) (wk_nw (g_c1 hC0) rfl hP8 hF9 (uC_1 hC0 ⟨by omega, by omega⟩) ?_))))))
    intro M11 hP12 hF13 e14
    subst hQ; exact wk_ret r138_36 (⟨rfl, hP12, hF13, CL_oth hC0 e10 e14, fun _ => (CL_add e2 (by omega) e10 e14).trans (by rw [show (p1 + (p2 * 8)) = p1 + 8 * p2 by omega])⟩)
def fm_n7172_6 : Nat := 4831838208
/-- IslandHall$Parser.step -/
theorem n7172_6 {B : eB} (d : Nat) (M0 : Mm) (p1 : Int) (p2 : Int) (hP0 : Pw M0) (l1 : 0 ≤ p1) (u1 : p1 ≤ 6) (l2 : 0 ≤ p2) (u2 : p2 ≤ 1279) (xp0 : stepok (p1 + 8 * p2)) : Ct B (d + 2) 172 [R 6, I p1, I p2] M0 (qI fun z M => Pw M ∧ Fr fm_n7172_6 M0 M ∧ 1 ≤ z ∧ z ≤ 1 ∧ (∀ L : List Int, CLe M0 L → (L.length : Int) < 256 → CLe M (L ++ [p1 + 8 * p2])) ∧ (OCe M M0)) := by
  refine ct_of (d := d + 1) (k := 0) (L := [some (R 6), some (I p1), some (I p2)]) rfl rfl rfl ?_
  have hF0 := Fr.rf fm_n7172_6 M0
  generalize hQ : (qI fun z M => Pw M ∧ Fr fm_n7172_6 M0 M ∧ 1 ≤ z ∧ z ≤ 1 ∧ (∀ L : List Int, CLe M0 L → (L.length : Int) < 256 → CLe M (L ++ [p1 + 8 * p2])) ∧ (OCe M M0)) = Q
  refine wk_al0 r172_0 ?_
  obtain ⟨v1, e2⟩ : ∃ v, M0 6 2 = v := ⟨_, rfl⟩
  have hC3 : isC v1 := by have := pcE hP0; rw [e2] at this; exact this
  refine wk_getfr r172_1 fd_6_2 e2 ?_
  refine wk_il1 r172_4 (wk_il2 r172_5 (wk_cv3 r172_6 (kcC_138 hC3) rfl (n7138 _ M0 v1 p1 p2 hP0 hC3 (by first | with_reducible assumption | omega) (by first | with_reducible assumption | omega) (by first | with_reducible assumption | omega) (by first | with_reducible assumption | omega) (by first | assumption | omega | (unfold stepok; omega))) (cqV ?_)))
  rintro M4 ⟨hP5, hQ6, xh8, xh9⟩
  have hF7 : Fr fm_n7172_6 M0 M4 := hF0.tr hQ6 rfl
  refine wk_c1 r172_9 ?_
  subst hQ; exact wk_zret r172_10 (by decide) (⟨rfl, _, rfl, hP5, hF7, by omega, by omega, fun L hL hl => CLe_add hL e2 ((hF7.at g_6_2 rfl).trans e2) hl xh9, OCe_ad (hF7.at g_6_2 rfl) e2 xh8⟩)
def fm_n7163_6 : Nat := 3941066822647808
set_option maxHeartbeats 20000000 in
/-- IslandHall$Parser.manyAtom -/
theorem n7163_6 {B : eB} (d : Nat) (M0 : Mm) (p1 : Int) (x9_1 : Int) (x9_3 : Int) (x9_2 : Int) (x6_4 : Int) (x6_5 : Int) (x6_3 : Int) (T : Int → Int) (c0 : Cg) (z0 : Og) (o : List Int) (w : List Int) (dd : Int) (s0 : Int) (hP0 : Pw M0) (l1 : (-1) ≤ p1) (u1 : p1 ≤ 4) (ex9_1 : M0 9 1 = x9_1) (lx9_1 : 0 ≤ x9_1) (ux9_1 : x9_1 ≤ 500) (ex9_3 : M0 9 3 = x9_3) (lx9_3 : 0 ≤ x9_3) (ux9_3 : x9_3 ≤ 500) (ex9_2 : M0 9 2 = x9_2) (lx9_2 : 0 ≤ x9_2) (ux9_2 : x9_2 ≤ 500) (ex6_4 : M0 6 4 = x6_4) (lx6_4 : 0 ≤ x6_4) (ux6_4 : x6_4 ≤ 6) (ex6_5 : M0 6 5 = x6_5) (lx6_5 : (-1) ≤ x6_5) (ux6_5 : x6_5 ≤ 500) (ex6_3 : M0 6 3 = x6_3) (lx6_3 : (-1) ≤ x6_3) (ux6_3 : x6_3 ≤ 7) (rp0 : 0 ≤ x9_1 + (-1) * x9_2) (rp1 : 0 ≤ x9_2 + (-1) * x9_3) (rp2 : 0 ≤ x9_1 + (-1) * x9_3) (xp0 : MXx T x9_1 x6_3 c0 z0 dd p1 x9_3 x6_5 x6_4 o w s0) (xp1 : 2 * ((CLm M0).length : Int) ≤ x9_3 + 2) (pp_TX : TXP T M0) (pp_TC : TCP T M0) : Ct B (d + 4) 163 [R 6, I p1] M0 (qI fun z M => Pw M ∧ Fr fm_n7163_6 M0 M ∧ 0 ≤ z ∧ z ≤ 1 ∧ 0 ≤ M 9 3 + (-1) * x9_3 ∧ 0 ≤ x9_1 + (-1) * (M 9 3) ∧ 0 ≤ x9_1 + (-1) * (M 9 2) ∧ 0 ≤ M 9 2 + (-1) * (M 9 3) ∧ 0 ≤ M 6 4 ∧ 0 ≤ M 6 5 + 1 ∧ 0 ≤ p1 + 1 + (-1) * z ∧ (z = 1 → 0 ≤ M 6 4 + (-1) * x6_4) ∧ (z = 1 → 0 ≤ (-1) * (M 6 4) + x6_4) ∧ (z = 1 → 0 ≤ M 6 5 + (-1) * x6_5) ∧ (z = 1 → 0 ≤ (-1) * (M 6 5) + x6_5) ∧ ((z = 1 ∧ XN T x9_1 x6_3 c0 z0 dd (M 9 3) o w 4 (CLm M0) (CLm M) 1 s0) ∨ (z = 0 ∧ Rch T x9_1 x6_3 c0 (3, 0, M 6 5, M 6 4))) ∧ (TXP T M) ∧ (TCP T M) ∧ (OCe M M0)) := by
  refine ct_of (d := d + 3) (k := 4) (L := [some (R 6), some (I p1), none, none, none, none]) rfl rfl rfl ?_
  have hF0 := Fr.rf fm_n7163_6 M0
  generalize hQ : (qI fun z M => Pw M ∧ Fr fm_n7163_6 M0 M ∧ 0 ≤ z ∧ z ≤ 1 ∧ 0 ≤ M 9 3 + (-1) * x9_3 ∧ 0 ≤ x9_1 + (-1) * (M 9 3) ∧ 0 ≤ x9_1 + (-1) * (M 9 2) ∧ 0 ≤ M 9 2 + (-1) * (M 9 3) ∧ 0 ≤ M 6 4 ∧ 0 ≤ M 6 5 + 1 ∧ 0 ≤ p1 + 1 + (-1) * z ∧ (z = 1 → 0 ≤ M 6 4 + (-1) * x6_4) ∧ (z = 1 → 0 ≤ (-1) * (M 6 4) + x6_4) ∧ (z = 1 → 0 ≤ M 6 5 + (-1) * x6_5) ∧ (z = 1 → 0 ≤ (-1) * (M 6 5) + x6_5) ∧ ((z = 1 ∧ XN T x9_1 x6_3 c0 z0 dd (M 9 3) o w 4 (CLm M0) (CLm M) 1 s0) ∨ (z = 0 ∧ Rch T x9_1 x6_3 c0 (3, 0, M 6 5, M 6 4))) ∧ (TXP T M) ∧ (TCP T M) ∧ (OCe M M0)) = Q
  have hCe : CLe M0 (CLm M0) := ⟨pcE hP0, rfl⟩
  have hOe : OCe M0 M0 := OCe_rf M0
  refine wk_il1 r163_0 (wk_c1 r163_1 ?_)
  refine wk_icne r163_2 ⟨by omega, by omega⟩ (by decide) ?_ ?_
  · intro h1
    refine wk_al0 r163_7 (wk_getfr r163_8 fd_6_0 (br_6_0 hP0) (wk_c2 r163_11 (wk_cv2 r163_13 kc_9_238 rfl (n7238_9 _ M0 60 x9_1 x9_3 T hP0 (by decide) (by decide) ex9_1 (by first | with_reducible assumption | omega) (by first | with_reducible assumption | omega) ex9_3 (by first | with_reducible assumption | omega) (by first | with_reducible assumption | omega) pp_TX pp_TC) (cqI ?_))))
    rintro v7 M2 ⟨hP3, hQ4, h8, h9, xh6⟩
    obtain rfl := Fr.same hQ4
    refine wk_ifeq r163_16 ⟨by omega, by omega⟩ ?_ ?_
    · intro h10
      refine wk_al0 r163_23 (wk_getfr r163_24 fd_6_0 (br_6_0 hP0) (wk_c2 r163_27 (wk_cv2 r163_29 kc_9_238 rfl (n7238_9 _ M0 62 x9_1 x9_3 T hP0 (by decide) (by decide) ex9_1 (by first | with_reducible assumption | omega) (by first | with_reducible assumption | omega) ex9_3 (by first | with_reducible assumption | omega) (by first | with_reducible assumption | omega) pp_TX pp_TC) (cqI ?_))))
      rintro v16 M11 ⟨hP12, hQ13, h17, h18, xh15⟩
      obtain rfl := Fr.same hQ13
      refine wk_ifeq r163_32 ⟨by omega, by omega⟩ ?_ ?_
      · intro h19
        refine wk_c1 r163_39 (wk_is2 r163_40 rfl (wk_il2 r163_41 ?_))
        refine wk_ifne r163_42 (by decide) ?_ ?_
        · intro h20
          exfalso
          omega
        · intro h21
          refine wk_al0 r163_45 (wk_getfr r163_46 fd_6_0 (br_6_0 hP0) (wk_c2 r163_49 (wk_cv2 r163_51 kc_9_238 rfl (n7238_9 _ M0 61 x9_1 x9_3 T hP0 (by decide) (by decide) ex9_1 (by first | with_reducible assumption | omega) (by first | with_reducible assumption | omega) ex9_3 (by first | with_reducible assumption | omega) (by first | with_reducible assumption | omega) pp_TX pp_TC) (cqI ?_))))
          rintro v27 M22 ⟨hP23, hQ24, h28, h29, xh26⟩
          obtain rfl := Fr.same hQ24
          refine wk_ifne r163_54 ⟨by omega, by omega⟩ ?_ ?_
          · intro h30
            refine wk_al0 r163_63 (wk_getfr r163_64 fd_6_0 (br_6_0 hP0) (wk_cv1 r163_67 kc_9_241 rfl (n7241_9 _ M0 x9_1 x9_2 T hP0 ex9_1 (by first | with_reducible assumption | omega) (by first | with_reducible assumption | omega) ex9_2 (by first | with_reducible assumption | omega) (by first | with_reducible assumption | omega) (by omega) pp_TX) (cqV ?_)))
            rintro M31 ⟨hP32, hQ33, h35, h36, h37, h38, xh39, pr40, pr41⟩
            have hF34 : Fr fm_n7163_6 M0 M31 := hF0.tr hQ33 rfl
            obtain ⟨v42, e43⟩ : ∃ v, M31 9 3 = v := ⟨_, rfl⟩
            have h44 := (bf_9_3 hP32).1; rw [e43] at h44
            have h45 := (bf_9_3 hP32).2; rw [e43] at h45
            obtain ⟨v46, e47⟩ : ∃ v, M31 9 2 = v := ⟨_, rfl⟩
            have h48 := (bf_9_2 hP32).1; rw [e47] at h48
            have h49 := (bf_9_2 hP32).2; rw [e47] at h49
            have hn50 := nx_of pp_TC ex9_1 ex9_3 ex9_2 xh39
            refine wk_al0 r163_70 (wk_c1 r163_71 (wk_c2 r163_72 (wk_cv3 r163_74 kc_6_167 rfl (n7167_6 _ M31 0 99 x9_1 v42 v46 x6_4 x6_5 T hP32 (by decide) (by decide) (by decide) (by decide) ((hQ33.at g_9_1 rfl).trans ex9_1) (by first | with_reducible assumption | omega) (by first | with_reducible assumption | omega) e43 (by first | with_reducible assumption | omega) (by first | with_reducible assumption | omega) e47 (by first | with_reducible assumption | omega) (by first | with_reducible assumption | omega) ((hQ33.at g_6_4 rfl).trans ex6_4) (by first | with_reducible assumption | omega) (by first | with_reducible assumption | omega) ((hQ33.at g_6_5 rfl).trans ex6_5) (by first | with_reducible assumption | omega) (by first | with_reducible assumption | omega) (by omega) (by omega) (by omega) pr40 pr41) (cqI ?_))))
            rintro v65 M51 ⟨hP52, hQ53, h66, h67, h55, h56, h57, h58, h59, h60, h61, xh62, pr63, pr64⟩
            have hF54 : Fr fm_n7163_6 M0 M51 := hF34.tr hQ53 rfl
            obtain ⟨v68, e69⟩ : ∃ v, M51 9 3 = v := ⟨_, rfl⟩
            have h70 := (bf_9_3 hP52).1; rw [e69] at h70
            have h71 := (bf_9_3 hP52).2; rw [e69] at h71
            obtain ⟨v72, e73⟩ : ∃ v, M51 9 2 = v := ⟨_, rfl⟩
            have h74 := (bf_9_2 hP52).1; rw [e73] at h74
            have h75 := (bf_9_2 hP52).2; rw [e73] at h75
            obtain ⟨v76, e77⟩ : ∃ v, M51 6 4 = v := ⟨_, rfl⟩
            have h78 := (bf_6_4 hP52).1; rw [e77] at h78
            have h79 := (bf_6_4 hP52).2; rw [e77] at h79
            obtain ⟨v80, e81⟩ : ∃ v, M51 6 5 = v := ⟨_, rfl⟩
            have h82 := (bf_6_5 hP52).1; rw [e81] at h82
            have h83 := (bf_6_5 hP52).2; rw [e81] at h83
            refine wk_is3 r163_77 rfl (wk_il3 r163_78 (wk_c1 r163_79 ?_))
            refine wk_icne r163_80 ⟨by omega, by omega⟩ (by decide) ?_ ?_
            · intro h84
              refine wk_il3 r163_85 (wk_c2 r163_86 (wk_min r163_88 ⟨by omega, by omega⟩ (by decide) rfl ?_))
              intro v85 h86 h87 h88
              refine wk_is4 r163_91 rfl (wk_il2 r163_93 ?_)
              refine wk_ifge r163_94 (by decide) ?_ ?_
              · intro h89
                refine wk_il2 r163_106 ?_
                refine wk_ifle r163_107 (by decide) ?_ ?_
                · intro h90
                  refine wk_c1 r163_119 (wk_il4 r163_120 (wk_shl1 8 256 r163_122 ⟨by omega, by omega⟩ ⟨pwl_8, by decide⟩ ?_))
                  intro v91 h92 h93 h94
                  refine wk_is5 r163_123 rfl (wk_al0 r163_125 (wk_c2 r163_126 (wk_il1 r163_128 (wk_c2 r163_129 (wk_ishlc r163_131 (by decide) pwl_8 (wk_il5 r163_132 (wk_c3 r163_134 (wk_iandc 8 256 r163_137 ⟨rfl, by decide⟩ rfl (wk_iord2 8 256 r163_138 (by decide) ⟨by omega, by omega⟩ ⟨by omega, by omega, by omega⟩ ?_)))))))))
                  refine wk_cv3 r163_139 kc_6_172 rfl (n7172_6 _ M51 6 ((p1 * 256) + (v91 % 256)) hP52 (by decide) (by decide) (by first | with_reducible assumption | omega) (by first | with_reducible assumption | omega) (by first | assumption | omega | (unfold stepok; omega))) (cqI ?_)
                  rintro v102 M96 ⟨hP97, hQ98, h103, h104, xh100, pr101⟩
                  have hF99 : Fr fm_n7163_6 M0 M96 := hF54.tr hQ98 rfl
                  have pr105 : OCe M96 M0 := OCe_tr pr101 (OCe_sm (Sm.fr hQ53 rfl) (OCe_sm (Sm.fr hQ33 rfl) hOe))
                  have pr106 : CLe M96 (CLm M0 ++ [6 + 8 * ((p1 * 256) + (v91 % 256))]) := xh100 _ (CLe_sm (Sm.fr hQ53 rfl) (CLe_sm (Sm.fr hQ33 rfl) hCe)) (by omega)
                  subst hQ; exact wk_zret r163_142 ⟨by omega, by omega⟩ (⟨rfl, _, rfl, hP97, hF99, by omega, by omega, by have := ((hQ98.at g_9_3 rfl).trans e69); omega, by have := ((hQ98.at g_9_3 rfl).trans e69); omega, by have := ((hQ98.at g_9_2 rfl).trans e73); omega, by have := ((hQ98.at g_9_2 rfl).trans e73); have := ((hQ98.at g_9_3 rfl).trans e69); omega, by have := ((hQ98.at g_6_4 rfl).trans e77); omega, by have := ((hQ98.at g_6_5 rfl).trans e81); omega, by omega, by have := ((hQ98.at g_6_4 rfl).trans e77); omega, by have := ((hQ98.at g_6_4 rfl).trans e77); omega, by have := ((hQ98.at g_6_5 rfl).trans e81); omega, by have := ((hQ98.at g_6_5 rfl).trans e81); omega, Or.inl ⟨by omega, by rw [((hQ98.at g_9_3 rfl).trans e69)]; exact XN_many (sg := 61) (v2 := v42) (nn := v65) (c := v91 % 256) xp0 (by omega) (by omega) (by omega) (by omega) (by omega) (by omega) (by omega) (pr106).2 (by omega) (mkb_eq (b := v85) (by omega) (by omega) (by omega) h94) (by decide) (by omega)⟩, (TXP_sm (Sm.fr hQ98 rfl) pr63), (TCP_sm (Sm.fr hQ98 rfl) pr64), pr105⟩)
                · intro h107
                  exfalso
                  omega
              · intro h108
                exfalso
                omega
            · intro h109
              refine wk_c1 r163_83 ?_
              subst hQ; exact wk_zret r163_84 (by decide) (⟨rfl, _, rfl, hP52, hF54, by omega, by omega, by have := e69; omega, by have := e69; omega, by have := e73; omega, by have := e73; have := e69; omega, by have := e77; omega, by have := e81; omega, by omega, by omega, by omega, by omega, by omega, Or.inr ⟨by omega, by rw [e81, e77]; exact MX_e (v2 := v42) (MXx_r xp0) (by omega) (by omega) (by omega) (by omega) (by omega) (by omega)⟩, pr63, pr64, (OCe_sm (Sm.fr hQ53 rfl) (OCe_sm (Sm.fr hQ33 rfl) hOe))⟩)
          · intro h110
            refine wk_al0 r163_57 (wk_c1 r163_58 (wk_cv2 r163_59 kc_6_159 rfl (n7159_6 _ M0 1 x9_3 hP0 (by decide) (by decide) ex9_3 (by first | with_reducible assumption | omega) (by first | with_reducible assumption | omega)) (cqI ?_)))
            rintro v119 M111 ⟨hP112, hQ113, h120, h121, h115, h116, h117, h118⟩
            have hF114 : Fr fm_n7163_6 M0 M111 := hF0.tr hQ113 rfl
            obtain ⟨v122, e123⟩ : ∃ v, M111 6 4 = v := ⟨_, rfl⟩
            have h124 := (bf_6_4 hP112).1; rw [e123] at h124
            have h125 := (bf_6_4 hP112).2; rw [e123] at h125
            obtain ⟨v126, e127⟩ : ∃ v, M111 6 5 = v := ⟨_, rfl⟩
            have h128 := (bf_6_5 hP112).1; rw [e127] at h128
            have h129 := (bf_6_5 hP112).2; rw [e127] at h129
            subst hQ; exact wk_zret r163_62 ⟨by omega, by omega⟩ (⟨rfl, _, rfl, hP112, hF114, by omega, by omega, by have := ((hQ113.at g_9_3 rfl).trans ex9_3); omega, by have := ((hQ113.at g_9_3 rfl).trans ex9_3); omega, by have := ((hQ113.at g_9_2 rfl).trans ex9_2); omega, by have := ((hQ113.at g_9_2 rfl).trans ex9_2); have := ((hQ113.at g_9_3 rfl).trans ex9_3); omega, by have := e123; omega, by have := e127; omega, by omega, by omega, by omega, by omega, by omega, Or.inr ⟨by omega, by rw [e127, e123]; exact MX_s (MXx_r xp0) (by omega) (by omega) (by omega) (by omega)⟩, (TXP_sm (Sm.fr hQ113 rfl) pp_TX), (TCP_sm (Sm.fr hQ113 rfl) pp_TC), (OCe_sm (Sm.fr hQ113 rfl) hOe)⟩)
      · intro h130
        refine wk_c1 r163_35 (wk_goto r163_36 (wk_is2 r163_40 rfl (wk_il2 r163_41 ?_)))
        refine wk_ifne r163_42 (by decide) ?_ ?_
        · intro h131
          refine wk_al0 r163_63 (wk_getfr r163_64 fd_6_0 (br_6_0 hP0) (wk_cv1 r163_67 kc_9_241 rfl (n7241_9 _ M0 x9_1 x9_2 T hP0 ex9_1 (by first | with_reducible assumption | omega) (by first | with_reducible assumption | omega) ex9_2 (by first | with_reducible assumption | omega) (by first | with_reducible assumption | omega) (by omega) pp_TX) (cqV ?_)))
          rintro M132 ⟨hP133, hQ134, h136, h137, h138, h139, xh140, pr141, pr142⟩
          have hF135 : Fr fm_n7163_6 M0 M132 := hF0.tr hQ134 rfl
          obtain ⟨v143, e144⟩ : ∃ v, M132 9 3 = v := ⟨_, rfl⟩
          have h145 := (bf_9_3 hP133).1; rw [e144] at h145
          have h146 := (bf_9_3 hP133).2; rw [e144] at h146
          obtain ⟨v147, e148⟩ : ∃ v, M132 9 2 = v := ⟨_, rfl⟩
          have h149 := (bf_9_2 hP133).1; rw [e148] at h149
          have h150 := (bf_9_2 hP133).2; rw [e148] at h150
          have hn151 := nx_of pp_TC ex9_1 ex9_3 ex9_2 xh140
          refine wk_al0 r163_70 (wk_c1 r163_71 (wk_c2 r163_72 (wk_cv3 r163_74 kc_6_167 rfl (n7167_6 _ M132 0 99 x9_1 v143 v147 x6_4 x6_5 T hP133 (by decide) (by decide) (by decide) (by decide) ((hQ134.at g_9_1 rfl).trans ex9_1) (by first | with_reducible assumption | omega) (by first | with_reducible assumption | omega) e144 (by first | with_reducible assumption | omega) (by first | with_reducible assumption | omega) e148 (by first | with_reducible assumption | omega) (by first | with_reducible assumption | omega) ((hQ134.at g_6_4 rfl).trans ex6_4) (by first | with_reducible assumption | omega) (by first | with_reducible assumption | omega) ((hQ134.at g_6_5 rfl).trans ex6_5) (by first | with_reducible assumption | omega) (by first | with_reducible assumption | omega) (by omega) (by omega) (by omega) pr141 pr142) (cqI ?_))))
          rintro v166 M152 ⟨hP153, hQ154, h167, h168, h156, h157, h158, h159, h160, h161, h162, xh163, pr164, pr165⟩
          have hF155 : Fr fm_n7163_6 M0 M152 := hF135.tr hQ154 rfl
          obtain ⟨v169, e170⟩ : ∃ v, M152 9 3 = v := ⟨_, rfl⟩
          have h171 := (bf_9_3 hP153).1; rw [e170] at h171
          have h172 := (bf_9_3 hP153).2; rw [e170] at h172
          obtain ⟨v173, e174⟩ : ∃ v, M152 9 2 = v := ⟨_, rfl⟩
          have h175 := (bf_9_2 hP153).1; rw [e174] at h175
          have h176 := (bf_9_2 hP153).2; rw [e174] at h176
          obtain ⟨v177, e178⟩ : ∃ v, M152 6 4 = v := ⟨_, rfl⟩
          have h179 := (bf_6_4 hP153).1; rw [e178] at h179
          have h180 := (bf_6_4 hP153).2; rw [e178] at h180
          obtain ⟨v181, e182⟩ : ∃ v, M152 6 5 = v := ⟨_, rfl⟩
          have h183 := (bf_6_5 hP153).1; rw [e182] at h183
          have h184 := (bf_6_5 hP153).2; rw [e182] at h184
          refine wk_is3 r163_77 rfl (wk_il3 r163_78 (wk_c1 r163_79 ?_))
          refine wk_icne r163_80 ⟨by omega, by omega⟩ (by decide) ?_ ?_
          · intro h185
            refine wk_il3 r163_85 (wk_c2 r163_86 (wk_min r163_88 ⟨by omega, by omega⟩ (by decide) rfl ?_))
            intro v186 h187 h188 h189
            refine wk_is4 r163_91 rfl (wk_il2 r163_93 ?_)
            refine wk_ifge r163_94 (by decide) ?_ ?_
            · intro h190
              refine wk_il2 r163_106 ?_
              refine wk_ifle r163_107 (by decide) ?_ ?_
              · intro h191
                exfalso
                omega
              · intro h192
                refine wk_c1 r163_110 (wk_il4 r163_111 (wk_c1 r163_113 (wk_iadd r163_114 (wk_ishl r163_115 ⟨by omega, by omega⟩ (wk_wrap ?_)))))
                intro v193 h194 h195 h196
                refine wk_goto r163_116 (wk_is5 r163_123 rfl (wk_al0 r163_125 (wk_c2 r163_126 (wk_il1 r163_128 (wk_c2 r163_129 (wk_ishlc r163_131 (by decide) pwl_8 (wk_il5 r163_132 (wk_c3 r163_134 (wk_iandc 8 256 r163_137 ⟨rfl, by decide⟩ rfl (wk_iord2 8 256 r163_138 (by decide) ⟨by omega, by omega⟩ ⟨by omega, by omega, by omega⟩ ?_))))))))))
                refine wk_cv3 r163_139 kc_6_172 rfl (n7172_6 _ M152 6 ((p1 * 256) + (v193 % 256)) hP153 (by decide) (by decide) (by first | with_reducible assumption | omega) (by first | with_reducible assumption | omega) (by first | assumption | omega | (unfold stepok; omega))) (cqI ?_)
                rintro v204 M198 ⟨hP199, hQ200, h205, h206, xh202, pr203⟩
                have hF201 : Fr fm_n7163_6 M0 M198 := hF155.tr hQ200 rfl
                have pr207 : OCe M198 M0 := OCe_tr pr203 (OCe_sm (Sm.fr hQ154 rfl) (OCe_sm (Sm.fr hQ134 rfl) hOe))
                have pr208 : CLe M198 (CLm M0 ++ [6 + 8 * ((p1 * 256) + (v193 % 256))]) := xh202 _ (CLe_sm (Sm.fr hQ154 rfl) (CLe_sm (Sm.fr hQ134 rfl) hCe)) (by omega)
                subst hQ; exact wk_zret r163_142 ⟨by omega, by omega⟩ (⟨rfl, _, rfl, hP199, hF201, by omega, by omega, by have := ((hQ200.at g_9_3 rfl).trans e170); omega, by have := ((hQ200.at g_9_3 rfl).trans e170); omega, by have := ((hQ200.at g_9_2 rfl).trans e174); omega, by have := ((hQ200.at g_9_2 rfl).trans e174); have := ((hQ200.at g_9_3 rfl).trans e170); omega, by have := ((hQ200.at g_6_4 rfl).trans e178); omega, by have := ((hQ200.at g_6_5 rfl).trans e182); omega, by omega, by have := ((hQ200.at g_6_4 rfl).trans e178); omega, by have := ((hQ200.at g_6_4 rfl).trans e178); omega, by have := ((hQ200.at g_6_5 rfl).trans e182); omega, by have := ((hQ200.at g_6_5 rfl).trans e182); omega, Or.inl ⟨by omega, by rw [((hQ200.at g_9_3 rfl).trans e170)]; exact XN_many (sg := 62) (v2 := v143) (nn := v166) (c := v193 % 256) xp0 (by omega) (by omega) (by omega) (by omega) (by omega) (by omega) (by omega) (pr208).2 (by omega) (mkb_gt (b := v186) (by omega) (by omega) (by omega) h196) (by decide) (by omega)⟩, (TXP_sm (Sm.fr hQ200 rfl) pr164), (TCP_sm (Sm.fr hQ200 rfl) pr165), pr207⟩)
            · intro h209
              exfalso
              omega
          · intro h210
            refine wk_c1 r163_83 ?_
            subst hQ; exact wk_zret r163_84 (by decide) (⟨rfl, _, rfl, hP153, hF155, by omega, by omega, by have := e170; omega, by have := e170; omega, by have := e174; omega, by have := e174; have := e170; omega, by have := e178; omega, by have := e182; omega, by omega, by omega, by omega, by omega, by omega, Or.inr ⟨by omega, by rw [e182, e178]; exact MX_e (v2 := v143) (MXx_r xp0) (by omega) (by omega) (by omega) (by omega) (by omega) (by omega)⟩, pr164, pr165, (OCe_sm (Sm.fr hQ154 rfl) (OCe_sm (Sm.fr hQ134 rfl) hOe))⟩)
        · intro h211
          exfalso
          omega
    · intro h212
      refine wk_c1 r163_19 (wk_goto r163_20 (wk_is2 r163_40 rfl (wk_il2 r163_41 ?_)))
      refine wk_ifne r163_42 (by decide) ?_ ?_
      · intro h213
        refine wk_al0 r163_63 (wk_getfr r163_64 fd_6_0 (br_6_0 hP0) (wk_cv1 r163_67 kc_9_241 rfl (n7241_9 _ M0 x9_1 x9_2 T hP0 ex9_1 (by first | with_reducible assumption | omega) (by first | with_reducible assumption | omega) ex9_2 (by first | with_reducible assumption | omega) (by first | with_reducible assumption | omega) (by omega) pp_TX) (cqV ?_)))
        rintro M214 ⟨hP215, hQ216, h218, h219, h220, h221, xh222, pr223, pr224⟩
        have hF217 : Fr fm_n7163_6 M0 M214 := hF0.tr hQ216 rfl
        obtain ⟨v225, e226⟩ : ∃ v, M214 9 3 = v := ⟨_, rfl⟩
        have h227 := (bf_9_3 hP215).1; rw [e226] at h227
        have h228 := (bf_9_3 hP215).2; rw [e226] at h228
        obtain ⟨v229, e230⟩ : ∃ v, M214 9 2 = v := ⟨_, rfl⟩
        have h231 := (bf_9_2 hP215).1; rw [e230] at h231
        have h232 := (bf_9_2 hP215).2; rw [e230] at h232
        have hn233 := nx_of pp_TC ex9_1 ex9_3 ex9_2 xh222
        refine wk_al0 r163_70 (wk_c1 r163_71 (wk_c2 r163_72 (wk_cv3 r163_74 kc_6_167 rfl (n7167_6 _ M214 0 99 x9_1 v225 v229 x6_4 x6_5 T hP215 (by decide) (by decide) (by decide) (by decide) ((hQ216.at g_9_1 rfl).trans ex9_1) (by first | with_reducible assumption | omega) (by first | with_reducible assumption | omega) e226 (by first | with_reducible assumption | omega) (by first | with_reducible assumption | omega) e230 (by first | with_reducible assumption | omega) (by first | with_reducible assumption | omega) ((hQ216.at g_6_4 rfl).trans ex6_4) (by first | with_reducible assumption | omega) (by first | with_reducible assumption | omega) ((hQ216.at g_6_5 rfl).trans ex6_5) (by first | with_reducible assumption | omega) (by first | with_reducible assumption | omega) (by omega) (by omega) (by omega) pr223 pr224) (cqI ?_))))
        rintro v248 M234 ⟨hP235, hQ236, h249, h250, h238, h239, h240, h241, h242, h243, h244, xh245, pr246, pr247⟩
        have hF237 : Fr fm_n7163_6 M0 M234 := hF217.tr hQ236 rfl
        obtain ⟨v251, e252⟩ : ∃ v, M234 9 3 = v := ⟨_, rfl⟩
        have h253 := (bf_9_3 hP235).1; rw [e252] at h253
        have h254 := (bf_9_3 hP235).2; rw [e252] at h254
        obtain ⟨v255, e256⟩ : ∃ v, M234 9 2 = v := ⟨_, rfl⟩
        have h257 := (bf_9_2 hP235).1; rw [e256] at h257
        have h258 := (bf_9_2 hP235).2; rw [e256] at h258
        obtain ⟨v259, e260⟩ : ∃ v, M234 6 4 = v := ⟨_, rfl⟩
        have h261 := (bf_6_4 hP235).1; rw [e260] at h261
        have h262 := (bf_6_4 hP235).2; rw [e260] at h262
        obtain ⟨v263, e264⟩ : ∃ v, M234 6 5 = v := ⟨_, rfl⟩
        have h265 := (bf_6_5 hP235).1; rw [e264] at h265
        have h266 := (bf_6_5 hP235).2; rw [e264] at h266
        refine wk_is3 r163_77 rfl (wk_il3 r163_78 (wk_c1 r163_79 ?_))
        refine wk_icne r163_80 ⟨by omega, by omega⟩ (by decide) ?_ ?_
        · intro h267
          refine wk_il3 r163_85 (wk_c2 r163_86 (wk_min r163_88 ⟨by omega, by omega⟩ (by decide) rfl ?_))
          intro v268 h269 h270 h271
          refine wk_is4 r163_91 rfl (wk_il2 r163_93 ?_)
          refine wk_ifge r163_94 (by decide) ?_ ?_
          · intro h272
            exfalso
            omega
          · intro h273
            refine wk_c1 r163_97 (wk_il4 r163_98 (wk_shl1 8 256 r163_100 ⟨by omega, by omega⟩ ⟨pwl_8, by decide⟩ ?_))
            intro v274 h275 h276 h277
            refine wk_c1 r163_101 (wk_isub r163_102 (wk_goto r163_103 (wk_is5 r163_123 rfl (wk_al0 r163_125 (wk_c2 r163_126 (wk_il1 r163_128 (wk_c2 r163_129 (wk_ishlc r163_131 (by decide) pwl_8 (wk_il5 r163_132 (wk_c3 r163_134 (wk_iandc 8 256 r163_137 ⟨rfl, by decide⟩ rfl (wk_iord2 8 256 r163_138 (by decide) ⟨by omega, by omega⟩ ⟨by omega, by omega, by omega⟩ ?_))))))))))))
            refine wk_cv3 r163_139 kc_6_172 rfl (n7172_6 _ M234 6 ((p1 * 256) + ((v274 - 1) % 256)) hP235 (by decide) (by decide) (by first | with_reducible assumption | omega) (by first | with_reducible assumption | omega) (by first | assumption | omega | (unfold stepok; omega))) (cqI ?_)
            rintro v285 M279 ⟨hP280, hQ281, h286, h287, xh283, pr284⟩
            have hF282 : Fr fm_n7163_6 M0 M279 := hF237.tr hQ281 rfl
            have pr288 : OCe M279 M0 := OCe_tr pr284 (OCe_sm (Sm.fr hQ236 rfl) (OCe_sm (Sm.fr hQ216 rfl) hOe))
            have pr289 : CLe M279 (CLm M0 ++ [6 + 8 * ((p1 * 256) + ((v274 - 1) % 256))]) := xh283 _ (CLe_sm (Sm.fr hQ236 rfl) (CLe_sm (Sm.fr hQ216 rfl) hCe)) (by omega)
            subst hQ; exact wk_zret r163_142 ⟨by omega, by omega⟩ (⟨rfl, _, rfl, hP280, hF282, by omega, by omega, by have := ((hQ281.at g_9_3 rfl).trans e252); omega, by have := ((hQ281.at g_9_3 rfl).trans e252); omega, by have := ((hQ281.at g_9_2 rfl).trans e256); omega, by have := ((hQ281.at g_9_2 rfl).trans e256); have := ((hQ281.at g_9_3 rfl).trans e252); omega, by have := ((hQ281.at g_6_4 rfl).trans e260); omega, by have := ((hQ281.at g_6_5 rfl).trans e264); omega, by omega, by have := ((hQ281.at g_6_4 rfl).trans e260); omega, by have := ((hQ281.at g_6_4 rfl).trans e260); omega, by have := ((hQ281.at g_6_5 rfl).trans e264); omega, by have := ((hQ281.at g_6_5 rfl).trans e264); omega, Or.inl ⟨by omega, by rw [((hQ281.at g_9_3 rfl).trans e252)]; exact XN_many (sg := 60) (v2 := v225) (nn := v248) (c := (v274 - 1) % 256) xp0 (by omega) (by omega) (by omega) (by omega) (by omega) (by omega) (by omega) (pr289).2 (by omega) (mkb_lt (b := v268) (by omega) (by omega) (by omega) h277) (by decide) (by omega)⟩, (TXP_sm (Sm.fr hQ281 rfl) pr246), (TCP_sm (Sm.fr hQ281 rfl) pr247), pr288⟩)
        · intro h290
          refine wk_c1 r163_83 ?_
          subst hQ; exact wk_zret r163_84 (by decide) (⟨rfl, _, rfl, hP235, hF237, by omega, by omega, by have := e252; omega, by have := e252; omega, by have := e256; omega, by have := e256; have := e252; omega, by have := e260; omega, by have := e264; omega, by omega, by omega, by omega, by omega, by omega, Or.inr ⟨by omega, by rw [e264, e260]; exact MX_e (v2 := v225) (MXx_r xp0) (by omega) (by omega) (by omega) (by omega) (by omega) (by omega)⟩, pr246, pr247, (OCe_sm (Sm.fr hQ236 rfl) (OCe_sm (Sm.fr hQ216 rfl) hOe))⟩)
      · intro h291
        exfalso
        omega
  · intro h292
    refine wk_c1 r163_5 ?_
    subst hQ; exact wk_zret r163_6 (by decide) (⟨rfl, _, rfl, hP0, hF0, by omega, by omega, by have := ex9_3; omega, by have := ex9_3; omega, by have := ex9_2; omega, by have := ex9_2; have := ex9_3; omega, by have := ex6_4; omega, by have := ex6_5; omega, by omega, by omega, by omega, by omega, by omega, Or.inr ⟨by omega, by rw [ex6_5, ex6_4]; exact MX_f (MXx_r xp0) (by omega) (by omega) (by omega)⟩, pp_TX, pp_TC, hOe⟩)
def fm_n7140 : Nat := 6979321856
/-- IslandHall$Code.addTold -/
theorem n7140 {B : eB} (d : Nat) (M0 : Mm) (c0 : Int) (p1 : Int) (hP0 : Pw M0) (hC0 : isC c0) (l1 : 0 ≤ p1) (u1 : p1 ≤ 99) : Ct B (d + 2) 140 [R c0, I p1] M0 (qV fun M => Pw M ∧ Fr fm_n7140 M0 M ∧ (∀ c : Int, isC c → c ≠ c0 → CL M c = CL M0 c) ∧ (M0 c0 1 < 256 → CL M c0 = CL M0 c0 ++ [8 * (if p1 < 15 then 102 + p1 else 117)])) := by
  refine ct_of (d := d + 1) (k := 1) (L := [some (R c0), some (I p1), none]) rfl rfl rfl ?_
  have hF0 := Fr.rf fm_n7140 M0
  generalize hQ : (qV fun M => Pw M ∧ Fr fm_n7140 M0 M ∧ (∀ c : Int, isC c → c ≠ c0 → CL M c = CL M0 c) ∧ (M0 c0 1 < 256 → CL M c0 = CL M0 c0 ++ [8 * (if p1 < 15 then 102 + p1 else 117)])) = Q
  refine wk_il1 r140_0 (wk_c2 r140_1 ?_)
  refine wk_icge r140_3 ⟨by omega, by omega⟩ (by decide) ?_ ?_
  · intro h1
    refine wk_c1 r140_10 (wk_is2 r140_11 rfl (wk_al0 r140_12 (wk_c1 r140_13 (wk_il2 r140_14 ?_))))
    refine wk_ifeq r140_15 (by decide) ?_ ?_
    · intro h2
      refine wk_c2 r140_25 (wk_cv3 r140_27 (kcC_138 hC0) rfl (n7138 _ M0 c0 0 117 hP0 hC0 (by decide) (by decide) (by decide) (by decide) (by first | assumption | omega | (unfold stepok; omega))) (cqV ?_))
      rintro M3 ⟨hP4, hQ5, xh7, xh8⟩
      have hF6 : Fr fm_n7140 M0 M3 := hF0.tr hQ5 rfl
      refine wk_il2 r140_30 ?_
      refine wk_ifeq r140_31 (by decide) ?_ ?_
      · intro h9
        subst hQ; exact wk_ret r140_46 (⟨rfl, hP4, hF6, xh7, fun q => (xh8 q).trans (by rw [if_neg (by omega)]; rfl)⟩)
      · intro h10
        exfalso
        omega
    · intro h11
      exfalso
      omega
  · intro h12
    refine wk_c1 r140_6 (wk_goto r140_7 (wk_is2 r140_11 rfl (wk_al0 r140_12 (wk_c1 r140_13 (wk_il2 r140_14 ?_)))))
    refine wk_ifeq r140_15 (by decide) ?_ ?_
    · intro h13
      exfalso
      omega
    · intro h14
      refine wk_c2 r140_18 (wk_il1 r140_20 (wk_iadd r140_21 (wk_goto r140_22 (wk_cv3 r140_27 (kcC_138 hC0) rfl (n7138 _ M0 c0 0 (102 + p1) hP0 hC0 (by decide) (by decide) (by first | with_reducible assumption | omega) (by first | with_reducible assumption | omega) (by first | assumption | omega | (unfold stepok; omega))) (cqV ?_)))))
      rintro M15 ⟨hP16, hQ17, xh19, xh20⟩
      have hF18 : Fr fm_n7140 M0 M15 := hF0.tr hQ17 rfl
      refine wk_il2 r140_30 ?_
      refine wk_ifeq r140_31 (by decide) ?_ ?_
      · intro h21
        exfalso
        omega
      · intro h22
        refine wk_al0 r140_34 (wk_dupr r140_35 (wk_getfb r140_36 (fdC_3 hC0) (bC_3 hP16 hC0) ?_))
        intro v23 h25 h26 e24
        refine wk_c1 r140_39 (wk_il1 r140_40 (wk_shl1 14 16384 r140_41 ⟨by omega, by omega⟩ ⟨pwl_14, by decide⟩ ?_))
        intro v27 h28 h29 h30
        refine wk_ior 15 32768 r140_42 (by decide) ⟨by omega, by omega⟩ ⟨by omega, by omega⟩ ?_
        intro v31 h32 h33 h34 h35 h36
        refine wk_putfi81 r140_43 (fdC_3 hC0) (wk_nw (g_c3 hC0) rfl hP16 hF18 (uC_3 hC0 ⟨by omega, by omega⟩) ?_)
        intro M37 hP38 hF39 e40
        subst hQ; exact wk_ret r140_46 (⟨rfl, hP38, hF39, fun c hc hn => (CL_ot1 hC0 e40 c hc hn).trans (xh19 c hc hn), fun q => (CL_cg (by rw [e40, mUp_ne (Or.inr (by decide))]) (fun k => by rw [e40, mUp_ne (Or.inl (by omega))])).trans ((xh20 q).trans (by rw [if_pos (by omega), show (0 : Int) + 8 * (102 + p1) = 8 * (102 + p1) by omega]))⟩)
def fm_n7176_6 : Nat := 3941068970131456
/-- IslandHall$Parser.toldAtom -/
theorem n7176_6 {B : eB} (d : Nat) (M0 : Mm) (x9_1 : Int) (x9_3 : Int) (x9_2 : Int) (x6_4 : Int) (x6_5 : Int) (x6_3 : Int) (T : Int → Int) (c0 : Cg) (z0 : Og) (o : List Int) (w : List Int) (dd : Int) (s0 : Int) (hP0 : Pw M0) (ex9_1 : M0 9 1 = x9_1) (lx9_1 : 0 ≤ x9_1) (ux9_1 : x9_1 ≤ 500) (ex9_3 : M0 9 3 = x9_3) (lx9_3 : 0 ≤ x9_3) (ux9_3 : x9_3 ≤ 500) (ex9_2 : M0 9 2 = x9_2) (lx9_2 : 0 ≤ x9_2) (ux9_2 : x9_2 ≤ 500) (ex6_4 : M0 6 4 = x6_4) (lx6_4 : 0 ≤ x6_4) (ux6_4 : x6_4 ≤ 6) (ex6_5 : M0 6 5 = x6_5) (lx6_5 : (-1) ≤ x6_5) (ux6_5 : x6_5 ≤ 500) (ex6_3 : M0 6 3 = x6_3) (lx6_3 : (-1) ≤ x6_3) (ux6_3 : x6_3 ≤ 7) (rp0 : 0 ≤ x9_1 + (-1) * x9_2) (rp1 : 0 ≤ x9_2 + (-1) * x9_3) (rp2 : 0 ≤ x9_1 + (-1) * x9_3) (xp0 : AXx T x9_1 x6_3 c0 z0 dd 99 x9_3 o w s0) (xp1 : 2 * ((CLm M0).length : Int) ≤ x9_3 + 2) (pp_TX : TXP T M0) (pp_TC : TCP T M0) : Ct B (d + 4) 176 [R 6] M0 (qI fun z M => Pw M ∧ Fr fm_n7176_6 M0 M ∧ 0 ≤ z ∧ z ≤ 1 ∧ 0 ≤ M 9 3 + (-1) * x9_3 ∧ 0 ≤ x9_1 + (-1) * (M 9 3) ∧ 0 ≤ x9_1 + (-1) * (M 9 2) ∧ 0 ≤ M 9 2 + (-1) * (M 9 3) ∧ 0 ≤ M 6 4 ∧ 0 ≤ M 6 5 + 1 ∧ (z = 1 → 0 ≤ M 6 4 + (-1) * x6_4) ∧ (z = 1 → 0 ≤ (-1) * (M 6 4) + x6_4) ∧ (z = 1 → 0 ≤ M 6 5 + (-1) * x6_5) ∧ (z = 1 → 0 ≤ (-1) * (M 6 5) + x6_5) ∧ ((z = 1 ∧ XN T x9_1 x6_3 c0 z0 dd (M 9 3) o w 4 (CLm M0) (CLm M) 1 s0) ∨ (z = 0 ∧ Rch T x9_1 x6_3 c0 (3, 0, M 6 5, M 6 4))) ∧ (TXP T M) ∧ (TCP T M) ∧ (OCe M M0)) := by
  refine ct_of (d := d + 3) (k := 1) (L := [some (R 6), none]) rfl rfl rfl ?_
  have hF0 := Fr.rf fm_n7176_6 M0
  generalize hQ : (qI fun z M => Pw M ∧ Fr fm_n7176_6 M0 M ∧ 0 ≤ z ∧ z ≤ 1 ∧ 0 ≤ M 9 3 + (-1) * x9_3 ∧ 0 ≤ x9_1 + (-1) * (M 9 3) ∧ 0 ≤ x9_1 + (-1) * (M 9 2) ∧ 0 ≤ M 9 2 + (-1) * (M 9 3) ∧ 0 ≤ M 6 4 ∧ 0 ≤ M 6 5 + 1 ∧ (z = 1 → 0 ≤ M 6 4 + (-1) * x6_4) ∧ (z = 1 → 0 ≤ (-1) * (M 6 4) + x6_4) ∧ (z = 1 → 0 ≤ M 6 5 + (-1) * x6_5) ∧ (z = 1 → 0 ≤ (-1) * (M 6 5) + x6_5) ∧ ((z = 1 ∧ XN T x9_1 x6_3 c0 z0 dd (M 9 3) o w 4 (CLm M0) (CLm M) 1 s0) ∨ (z = 0 ∧ Rch T x9_1 x6_3 c0 (3, 0, M 6 5, M 6 4))) ∧ (TXP T M) ∧ (TCP T M) ∧ (OCe M M0)) = Q
  have hCe : CLe M0 (CLm M0) := ⟨pcE hP0, rfl⟩
  have hOe : OCe M0 M0 := OCe_rf M0
  refine wk_al0 r176_0 (wk_c1 r176_1 (wk_c2 r176_2 (wk_cv3 r176_4 kc_6_167 rfl (n7167_6 _ M0 0 99 x9_1 x9_3 x9_2 x6_4 x6_5 T hP0 (by decide) (by decide) (by decide) (by decide) ex9_1 (by first | with_reducible assumption | omega) (by first | with_reducible assumption | omega) ex9_3 (by first | with_reducible assumption | omega) (by first | with_reducible assumption | omega) ex9_2 (by first | with_reducible assumption | omega) (by first | with_reducible assumption | omega) ex6_4 (by first | with_reducible assumption | omega) (by first | with_reducible assumption | omega) ex6_5 (by first | with_reducible assumption | omega) (by first | with_reducible assumption | omega) (by omega) (by omega) (by omega) pp_TX pp_TC) (cqI ?_))))
  rintro v15 M1 ⟨hP2, hQ3, h16, h17, h5, h6, h7, h8, h9, h10, h11, xh12, pr13, pr14⟩
  have hF4 : Fr fm_n7176_6 M0 M1 := hF0.tr hQ3 rfl
  obtain ⟨v18, e19⟩ : ∃ v, M1 9 3 = v := ⟨_, rfl⟩
  have h20 := (bf_9_3 hP2).1; rw [e19] at h20
  have h21 := (bf_9_3 hP2).2; rw [e19] at h21
  obtain ⟨v22, e23⟩ : ∃ v, M1 9 2 = v := ⟨_, rfl⟩
  have h24 := (bf_9_2 hP2).1; rw [e23] at h24
  have h25 := (bf_9_2 hP2).2; rw [e23] at h25
  obtain ⟨v26, e27⟩ : ∃ v, M1 6 4 = v := ⟨_, rfl⟩
  have h28 := (bf_6_4 hP2).1; rw [e27] at h28
  have h29 := (bf_6_4 hP2).2; rw [e27] at h29
  obtain ⟨v30, e31⟩ : ∃ v, M1 6 5 = v := ⟨_, rfl⟩
  have h32 := (bf_6_5 hP2).1; rw [e31] at h32
  have h33 := (bf_6_5 hP2).2; rw [e31] at h33
  refine wk_is1 r176_7 rfl (wk_il1 r176_8 (wk_c1 r176_9 ?_))
  refine wk_icne r176_10 ⟨by omega, by omega⟩ (by decide) ?_ ?_
  · intro h34
    refine wk_al0 r176_15 ?_
    obtain ⟨v35, e36⟩ : ∃ v, M1 6 2 = v := ⟨_, rfl⟩
    have hC37 : isC v35 := by have := pcE hP2; rw [e36] at this; exact this
    refine wk_getfr r176_16 fd_6_2 e36 (wk_il1 r176_19 (wk_cv2 r176_20 (kcC_140 hC37) rfl (n7140 _ M1 v35 v15 hP2 hC37 (by first | with_reducible assumption | omega) (by first | with_reducible assumption | omega)) (cqV ?_)))
    rintro M38 ⟨hP39, hQ40, xh42, xh43⟩
    have hF41 : Fr fm_n7176_6 M0 M38 := hF4.tr hQ40 rfl
    have pr44 : OCe M38 M0 := OCe_tr (OCe_ad (hQ40.at g_6_2 rfl) e36 xh42) (OCe_sm (Sm.fr hQ3 rfl) hOe)
    have pr45 : CLe M38 (CLm M0 ++ [8 * (if v15 < 15 then 102 + v15 else 117)]) := CLe_add (CLe_sm (Sm.fr hQ3 rfl) hCe) e36 ((hQ40.at g_6_2 rfl).trans e36) (by omega) xh43
    refine wk_c1 r176_23 ?_
    subst hQ; exact wk_zret r176_24 (by decide) (⟨rfl, _, rfl, hP39, hF41, by omega, by omega, by have := ((hQ40.at g_9_3 rfl).trans e19); omega, by have := ((hQ40.at g_9_3 rfl).trans e19); omega, by have := ((hQ40.at g_9_2 rfl).trans e23); omega, by have := ((hQ40.at g_9_2 rfl).trans e23); have := ((hQ40.at g_9_3 rfl).trans e19); omega, by have := ((hQ40.at g_6_4 rfl).trans e27); omega, by have := ((hQ40.at g_6_5 rfl).trans e31); omega, by have := ((hQ40.at g_6_4 rfl).trans e27); omega, by have := ((hQ40.at g_6_4 rfl).trans e27); omega, by have := ((hQ40.at g_6_5 rfl).trans e31); omega, by have := ((hQ40.at g_6_5 rfl).trans e31); omega, Or.inl ⟨by omega, by rw [((hQ40.at g_9_3 rfl).trans e19)]; exact XN_told (k := v15) xp0 (by omega) (by omega) (by omega) (by omega) (pr45).2 rfl (by decide) (by omega)⟩, (TXP_sm (Sm.fr hQ40 rfl) pr13), (TCP_sm (Sm.fr hQ40 rfl) pr14), pr44⟩)
  · intro h46
    refine wk_c1 r176_13 ?_
    subst hQ; exact wk_zret r176_14 (by decide) (⟨rfl, _, rfl, hP2, hF4, by omega, by omega, by have := e19; omega, by have := e19; omega, by have := e23; omega, by have := e23; have := e19; omega, by have := e27; omega, by have := e31; omega, by omega, by omega, by omega, by omega, Or.inr ⟨by omega, by rw [e31, e27]; exact AX_e (AXx_r xp0) (by omega) (by omega) (by omega)⟩, pr13, pr14, (OCe_sm (Sm.fr hQ3 rfl) hOe)⟩)
def fm_n7171_6 : Nat := 4831838208
/-- IslandHall$Parser.row -/
theorem n7171_6 {B : eB} (d : Nat) (M0 : Mm) (p1 : Int) (p2 : Int) (hP0 : Pw M0) (l1 : 46 ≤ p1) (u1 : p1 ≤ 46) (l2 : (-1) ≤ p2) (u2 : p2 ≤ 1) : Ct B (d + 3) 171 [R 6, I p1, I p2] M0 (qI fun z M => Pw M ∧ Fr fm_n7171_6 M0 M ∧ 0 ≤ z ∧ z ≤ 1 ∧ ((z = 1 ∧ p2 ≠ -1 ∧ ∀ L : List Int, CLe M0 L → (L.length : Int) < 256 → CLe M (L ++ [8 * (p1 + p2)])) ∨ (z = 0 ∧ p2 = -1)) ∧ (OCe M M0)) := by
  refine ct_of (d := d + 2) (k := 0) (L := [some (R 6), some (I p1), some (I p2)]) rfl rfl rfl ?_
  have hF0 := Fr.rf fm_n7171_6 M0
  generalize hQ : (qI fun z M => Pw M ∧ Fr fm_n7171_6 M0 M ∧ 0 ≤ z ∧ z ≤ 1 ∧ ((z = 1 ∧ p2 ≠ -1 ∧ ∀ L : List Int, CLe M0 L → (L.length : Int) < 256 → CLe M (L ++ [8 * (p1 + p2)])) ∨ (z = 0 ∧ p2 = -1)) ∧ (OCe M M0)) = Q
  have hOe : OCe M0 M0 := OCe_rf M0
  refine wk_il2 r171_0 (wk_c1 r171_1 ?_)
  refine wk_iceq r171_2 ⟨by omega, by omega⟩ (by decide) ?_ ?_
  · intro h1
    refine wk_c1 r171_20 ?_
    subst hQ; exact wk_zret r171_21 (by decide) (⟨rfl, _, rfl, hP0, hF0, by omega, by omega, Or.inr ⟨by omega, by omega⟩, hOe⟩)
  · intro h2
    refine wk_al0 r171_5 (wk_c1 r171_6 (wk_il1 r171_7 (wk_il2 r171_8 (wk_iadd r171_9 (wk_cv3 r171_10 kc_6_172 rfl (n7172_6 _ M0 0 (p1 + p2) hP0 (by decide) (by decide) (by first | with_reducible assumption | omega) (by first | with_reducible assumption | omega) (by first | assumption | omega | (unfold stepok; omega))) (cqI ?_))))))
    rintro v9 M3 ⟨hP4, hQ5, h10, h11, xh7, pr8⟩
    have hF6 : Fr fm_n7171_6 M0 M3 := hF0.tr hQ5 rfl
    have pr12 : OCe M3 M0 := OCe_tr pr8 hOe
    refine wk_ifeq r171_13 ⟨by omega, by omega⟩ ?_ ?_
    · intro h13
      exfalso
      omega
    · intro h14
      refine wk_c1 r171_16 (wk_goto r171_17 ?_)
      subst hQ; exact wk_zret r171_21 (by decide) (⟨rfl, _, rfl, hP4, hF6, by omega, by omega, Or.inl ⟨by omega, by omega, fun L hL hl => by have q8 := xh7 L hL hl; rw [show 0 + 8 * (p1 + p2) = 8 * (p1 + p2) by omega] at q8; exact q8⟩, pr12⟩)
def fm_n7171_6v1 : Nat := 4831838208
/-- IslandHall$Parser.row -/
theorem n7171_6v1 {B : eB} (d : Nat) (M0 : Mm) (p1 : Int) (p2 : Int) (hP0 : Pw M0) (l1 : 39 ≤ p1) (u1 : p1 ≤ 39) (l2 : (-1) ≤ p2) (u2 : p2 ≤ 6) : Ct B (d + 3) 171 [R 6, I p1, I p2] M0 (qI fun z M => Pw M ∧ Fr fm_n7171_6v1 M0 M ∧ 0 ≤ z ∧ z ≤ 1 ∧ ((z = 1 ∧ p2 ≠ -1 ∧ ∀ L : List Int, CLe M0 L → (L.length : Int) < 256 → CLe M (L ++ [8 * (p1 + p2)])) ∨ (z = 0 ∧ p2 = -1)) ∧ (OCe M M0)) := by
  refine ct_of (d := d + 2) (k := 0) (L := [some (R 6), some (I p1), some (I p2)]) rfl rfl rfl ?_
  have hF0 := Fr.rf fm_n7171_6v1 M0
  generalize hQ : (qI fun z M => Pw M ∧ Fr fm_n7171_6v1 M0 M ∧ 0 ≤ z ∧ z ≤ 1 ∧ ((z = 1 ∧ p2 ≠ -1 ∧ ∀ L : List Int, CLe M0 L → (L.length : Int) < 256 → CLe M (L ++ [8 * (p1 + p2)])) ∨ (z = 0 ∧ p2 = -1)) ∧ (OCe M M0)) = Q
  have hOe : OCe M0 M0 := OCe_rf M0
  refine wk_il2 r171_0 (wk_c1 r171_1 ?_)
  refine wk_iceq r171_2 ⟨by omega, by omega⟩ (by decide) ?_ ?_
  · intro h1
    refine wk_c1 r171_20 ?_
    subst hQ; exact wk_zret r171_21 (by decide) (⟨rfl, _, rfl, hP0, hF0, by omega, by omega, Or.inr ⟨by omega, by omega⟩, hOe⟩)
  · intro h2
    refine wk_al0 r171_5 (wk_c1 r171_6 (wk_il1 r171_7 (wk_il2 r171_8 (wk_iadd r171_9 (wk_cv3 r171_10 kc_6_172 rfl (n7172_6 _ M0 0 (p1 + p2) hP0 (by decide) (by decide) (by first | with_reducible assumption | omega) (by first | with_reducible assumption | omega) (by first | assumption | omega | (unfold stepok; omega))) (cqI ?_))))))
    rintro v9 M3 ⟨hP4, hQ5, h10, h11, xh7, pr8⟩
    have hF6 : Fr fm_n7171_6v1 M0 M3 := hF0.tr hQ5 rfl
    have pr12 : OCe M3 M0 := OCe_tr pr8 hOe
    refine wk_ifeq r171_13 ⟨by omega, by omega⟩ ?_ ?_
    · intro h13
      exfalso
      omega
    · intro h14
      refine wk_c1 r171_16 (wk_goto r171_17 ?_)
      subst hQ; exact wk_zret r171_21 (by decide) (⟨rfl, _, rfl, hP4, hF6, by omega, by omega, Or.inl ⟨by omega, by omega, fun L hL hl => by have q8 := xh7 L hL hl; rw [show 0 + 8 * (p1 + p2) = 8 * (p1 + p2) by omega] at q8; exact q8⟩, pr12⟩)
def fm_n7171_6v2 : Nat := 4831838208
/-- IslandHall$Parser.row -/
theorem n7171_6v2 {B : eB} (d : Nat) (M0 : Mm) (p1 : Int) (p2 : Int) (hP0 : Pw M0) (l1 : 35 ≤ p1) (u1 : p1 ≤ 35) (l2 : (-1) ≤ p2) (u2 : p2 ≤ 3) : Ct B (d + 3) 171 [R 6, I p1, I p2] M0 (qI fun z M => Pw M ∧ Fr fm_n7171_6v2 M0 M ∧ 0 ≤ z ∧ z ≤ 1 ∧ ((z = 1 ∧ p2 ≠ -1 ∧ ∀ L : List Int, CLe M0 L → (L.length : Int) < 256 → CLe M (L ++ [8 * (p1 + p2)])) ∨ (z = 0 ∧ p2 = -1)) ∧ (OCe M M0)) := by
  refine ct_of (d := d + 2) (k := 0) (L := [some (R 6), some (I p1), some (I p2)]) rfl rfl rfl ?_
  have hF0 := Fr.rf fm_n7171_6v2 M0
  generalize hQ : (qI fun z M => Pw M ∧ Fr fm_n7171_6v2 M0 M ∧ 0 ≤ z ∧ z ≤ 1 ∧ ((z = 1 ∧ p2 ≠ -1 ∧ ∀ L : List Int, CLe M0 L → (L.length : Int) < 256 → CLe M (L ++ [8 * (p1 + p2)])) ∨ (z = 0 ∧ p2 = -1)) ∧ (OCe M M0)) = Q
  have hOe : OCe M0 M0 := OCe_rf M0
  refine wk_il2 r171_0 (wk_c1 r171_1 ?_)
  refine wk_iceq r171_2 ⟨by omega, by omega⟩ (by decide) ?_ ?_
  · intro h1
    refine wk_c1 r171_20 ?_
    subst hQ; exact wk_zret r171_21 (by decide) (⟨rfl, _, rfl, hP0, hF0, by omega, by omega, Or.inr ⟨by omega, by omega⟩, hOe⟩)
  · intro h2
    refine wk_al0 r171_5 (wk_c1 r171_6 (wk_il1 r171_7 (wk_il2 r171_8 (wk_iadd r171_9 (wk_cv3 r171_10 kc_6_172 rfl (n7172_6 _ M0 0 (p1 + p2) hP0 (by decide) (by decide) (by first | with_reducible assumption | omega) (by first | with_reducible assumption | omega) (by first | assumption | omega | (unfold stepok; omega))) (cqI ?_))))))
    rintro v9 M3 ⟨hP4, hQ5, h10, h11, xh7, pr8⟩
    have hF6 : Fr fm_n7171_6v2 M0 M3 := hF0.tr hQ5 rfl
    have pr12 : OCe M3 M0 := OCe_tr pr8 hOe
    refine wk_ifeq r171_13 ⟨by omega, by omega⟩ ?_ ?_
    · intro h13
      exfalso
      omega
    · intro h14
      refine wk_c1 r171_16 (wk_goto r171_17 ?_)
      subst hQ; exact wk_zret r171_21 (by decide) (⟨rfl, _, rfl, hP4, hF6, by omega, by omega, Or.inl ⟨by omega, by omega, fun L hL hl => by have q8 := xh7 L hL hl; rw [show 0 + 8 * (p1 + p2) = 8 * (p1 + p2) by omega] at q8; exact q8⟩, pr12⟩)
def fm_n7242_9 : Nat := 0
/-- IslandHall$Tokens.person -/
theorem n7242_9 {B : eB} (d : Nat) (M0 : Mm) (x9_1 : Int) (x9_3 : Int) (T : Int → Int) (hP0 : Pw M0) (ex9_1 : M0 9 1 = x9_1) (lx9_1 : 0 ≤ x9_1) (ux9_1 : x9_1 ≤ 500) (ex9_3 : M0 9 3 = x9_3) (lx9_3 : 0 ≤ x9_3) (ux9_3 : x9_3 ≤ 500) (xp0 : nmI T x9_1 x9_3 = 1) (pp_TX : TXP T M0) (pp_TC : TCP T M0) : Ct B (d + 1) 242 [R 9] M0 (qI fun z M => Pw M ∧ Fr fm_n7242_9 M0 M ∧ (-225) ≤ z ∧ z ≤ 30 ∧ (z = T x9_3 - 97)) := by
  refine ct_of (d := d + 0) (k := 0) (L := [some (R 9)]) rfl rfl rfl ?_
  have hF0 := Fr.rf fm_n7242_9 M0
  generalize hQ : (qI fun z M => Pw M ∧ Fr fm_n7242_9 M0 M ∧ (-225) ≤ z ∧ z ≤ 30 ∧ (z = T x9_3 - 97)) = Q
  have hTC := pp_TC
  unfold TCP at hTC
  rw [ex9_1, ex9_3] at hTC
  have hlt := tt_lt T x9_1 x9_3
  have hnm := nmI_c T x9_1 x9_3
  have hlet := let_of pp_TC ex9_1 ex9_3 (by omega) x9_3 (by omega) (by omega)
  refine wk_al0 r242_0 (wk_getfr r242_1 fd_9_0 (br_9_0 hP0) (wk_al0 r242_4 (wk_getfi r242_5 fd_9_3 ex9_3 (wk_baldb r242_8 ar_1 ⟨by omega, by omega⟩ (fun q0 q1 => ba_1 hP0 q0 q1) ?_))))
  intro v1 h3 h4 e2
  refine wk_c2 r242_9 (wk_isub r242_11 ?_)
  subst hQ; exact wk_iret r242_12 (⟨rfl, _, rfl, hP0, hF0, by omega, by omega, by have q9 := pp_TX x9_3 (by omega) (by rw [ex9_1]; omega); rw [e2] at q9; omega⟩)
def fm_n7165_6 : Nat := 3941061990809600
/-- IslandHall$Parser.name -/
theorem n7165_6 {B : eB} (d : Nat) (M0 : Mm) (x9_1 : Int) (x9_3 : Int) (x9_2 : Int) (x6_4 : Int) (x6_5 : Int) (x6_3 : Int) (T : Int → Int) (hP0 : Pw M0) (ex9_1 : M0 9 1 = x9_1) (lx9_1 : 0 ≤ x9_1) (ux9_1 : x9_1 ≤ 500) (ex9_3 : M0 9 3 = x9_3) (lx9_3 : 0 ≤ x9_3) (ux9_3 : x9_3 ≤ 500) (ex9_2 : M0 9 2 = x9_2) (lx9_2 : 0 ≤ x9_2) (ux9_2 : x9_2 ≤ 500) (ex6_4 : M0 6 4 = x6_4) (lx6_4 : 0 ≤ x6_4) (ux6_4 : x6_4 ≤ 6) (ex6_5 : M0 6 5 = x6_5) (lx6_5 : (-1) ≤ x6_5) (ux6_5 : x6_5 ≤ 500) (ex6_3 : M0 6 3 = x6_3) (lx6_3 : (-1) ≤ x6_3) (ux6_3 : x6_3 ≤ 7) (rp0 : 0 ≤ x9_1 + (-1) * x9_2) (rp1 : 0 ≤ x9_2 + (-1) * x9_3) (rp2 : 0 ≤ x9_1 + (-1) * x9_3) (pp_TX : TXP T M0) (pp_TC : TCP T M0) : Ct B (d + 3) 165 [R 6] M0 (qI fun z M => Pw M ∧ Fr fm_n7165_6 M0 M ∧ (-1) ≤ z ∧ z ≤ 6 ∧ 0 ≤ M 9 3 + (-1) * x9_3 ∧ 0 ≤ x9_1 + (-1) * (M 9 3) ∧ 0 ≤ x9_1 + (-1) * (M 9 2) ∧ 0 ≤ M 9 2 + (-1) * (M 9 3) ∧ 0 ≤ M 6 4 ∧ 0 ≤ M 6 5 + 1 ∧ ((z = T x9_3 - 97 ∧ naE T x9_1 x6_3 x9_3 = 0 ∧ M 9 3 = nx T x9_1 x9_3 ∧ M 6 4 = x6_4 ∧ M 6 5 = x6_5 ∧ x9_3 + 1 ≤ M 9 3 ∧ 0 ≤ z) ∨ (z = -1 ∧ naE T x9_1 x6_3 x9_3 ≠ 0 ∧ M 9 3 = x9_3 ∧ M 6 4 = naE T x9_1 x6_3 x9_3 ∧ M 6 5 = x9_3)) ∧ (TXP T M) ∧ (TCP T M)) := by
  refine ct_of (d := d + 2) (k := 1) (L := [some (R 6), none]) rfl rfl rfl ?_
  have hF0 := Fr.rf fm_n7165_6 M0
  generalize hQ : (qI fun z M => Pw M ∧ Fr fm_n7165_6 M0 M ∧ (-1) ≤ z ∧ z ≤ 6 ∧ 0 ≤ M 9 3 + (-1) * x9_3 ∧ 0 ≤ x9_1 + (-1) * (M 9 3) ∧ 0 ≤ x9_1 + (-1) * (M 9 2) ∧ 0 ≤ M 9 2 + (-1) * (M 9 3) ∧ 0 ≤ M 6 4 ∧ 0 ≤ M 6 5 + 1 ∧ ((z = T x9_3 - 97 ∧ naE T x9_1 x6_3 x9_3 = 0 ∧ M 9 3 = nx T x9_1 x9_3 ∧ M 6 4 = x6_4 ∧ M 6 5 = x6_5 ∧ x9_3 + 1 ≤ M 9 3 ∧ 0 ≤ z) ∨ (z = -1 ∧ naE T x9_1 x6_3 x9_3 ≠ 0 ∧ M 9 3 = x9_3 ∧ M 6 4 = naE T x9_1 x6_3 x9_3 ∧ M 6 5 = x9_3)) ∧ (TXP T M) ∧ (TCP T M)) = Q
  have hTC := pp_TC
  unfold TCP at hTC
  rw [ex9_1, ex9_3] at hTC
  have hlt := tt_lt T x9_1 x9_3
  refine wk_al0 r165_0 (wk_getfr r165_1 fd_6_0 (br_6_0 hP0) (wk_cv1 r165_4 kc_9_237 rfl (n7237_9 _ M0 x9_1 x9_3 T hP0 ex9_1 (by first | with_reducible assumption | omega) (by first | with_reducible assumption | omega) ex9_3 (by first | with_reducible assumption | omega) (by first | with_reducible assumption | omega) pp_TX pp_TC) (cqI ?_)))
  rintro v6 M1 ⟨hP2, hQ3, h7, h8, xh5⟩
  obtain rfl := Fr.same hQ3
  refine wk_ifne r165_7 ⟨by omega, by omega⟩ ?_ ?_
  · intro h9
    refine wk_al0 r165_18 (wk_getfr r165_19 fd_6_0 (br_6_0 hP0) ?_)
    have hnm := nmI_c T x9_1 x9_3
    refine wk_cv1 r165_22 kc_9_242 rfl (n7242_9 _ M0 x9_1 x9_3 T hP0 ex9_1 (by first | with_reducible assumption | omega) (by first | with_reducible assumption | omega) ex9_3 (by first | with_reducible assumption | omega) (by first | with_reducible assumption | omega) (by first | assumption | omega | (unfold stepok; omega)) pp_TX pp_TC) (cqI ?_)
    rintro v15 M10 ⟨hP11, hQ12, h16, h17, xh14⟩
    obtain rfl := Fr.same hQ12
    refine wk_is1 r165_25 rfl ?_
    have hl9 := let_of pp_TC ex9_1 ex9_3 (by omega) x9_3 (by omega) (by omega)
    have h18 : 0 ≤ v15 := by omega
    refine wk_il1 r165_26 ?_
    refine wk_iflt r165_27 ⟨by omega, by omega⟩ ?_ ?_
    · intro h19
      exfalso
      omega
    · intro h20
      refine wk_il1 r165_30 (wk_al0 r165_31 (wk_getfi r165_32 fd_6_3 ex6_3 ?_))
      refine wk_iclt r165_35 ⟨by omega, by omega⟩ ⟨by omega, by omega⟩ ?_ ?_
      · intro h21
        refine wk_al0 r165_46 (wk_getfr r165_47 fd_6_0 (br_6_0 hP0) (wk_cv1 r165_50 kc_9_241 rfl (n7241_9 _ M0 x9_1 x9_2 T hP0 ex9_1 (by first | with_reducible assumption | omega) (by first | with_reducible assumption | omega) ex9_2 (by first | with_reducible assumption | omega) (by first | with_reducible assumption | omega) (by omega) pp_TX) (cqV ?_)))
        rintro M22 ⟨hP23, hQ24, h26, h27, h28, h29, xh30, pr31, pr32⟩
        have hF25 : Fr fm_n7165_6 M0 M22 := hF0.tr hQ24 rfl
        obtain ⟨v33, e34⟩ : ∃ v, M22 9 3 = v := ⟨_, rfl⟩
        have h35 := (bf_9_3 hP23).1; rw [e34] at h35
        have h36 := (bf_9_3 hP23).2; rw [e34] at h36
        obtain ⟨v37, e38⟩ : ∃ v, M22 9 2 = v := ⟨_, rfl⟩
        have h39 := (bf_9_2 hP23).1; rw [e38] at h39
        have h40 := (bf_9_2 hP23).2; rw [e38] at h40
        have hn41 := nx_of pp_TC ex9_1 ex9_3 ex9_2 xh30
        refine wk_il1 r165_53 ?_
        subst hQ; exact wk_iret r165_54 (⟨rfl, _, rfl, hP23, hF25, by omega, by omega, by have := e34; omega, by have := e34; omega, by have := e38; omega, by have := e38; have := e34; omega, by have := ((hQ24.at g_6_4 rfl).trans ex6_4); omega, by have := ((hQ24.at g_6_5 rfl).trans ex6_5); omega, by have := e34; have := e38; have := ((hQ24.at g_6_4 rfl).trans ex6_4); have := ((hQ24.at g_6_5 rfl).trans ex6_5); have := naE_c T x9_1 x6_3 x9_3; have := nmI_c T x9_1 x9_3; have := tt_lt T x9_1 x9_3; have := nx_lt (T := T) (n := x9_1) (s := x9_3) (by omega); omega, pr31, pr32⟩)
      · intro h42
        refine wk_al0 r165_38 (wk_c1 r165_39 (wk_cv2 r165_40 kc_6_159 rfl (n7159_6 _ M0 4 x9_3 hP0 (by decide) (by decide) ex9_3 (by first | with_reducible assumption | omega) (by first | with_reducible assumption | omega)) (cqI ?_)))
        rintro v51 M43 ⟨hP44, hQ45, h52, h53, h47, h48, h49, h50⟩
        have hF46 : Fr fm_n7165_6 M0 M43 := hF0.tr hQ45 rfl
        obtain ⟨v54, e55⟩ : ∃ v, M43 6 4 = v := ⟨_, rfl⟩
        have h56 := (bf_6_4 hP44).1; rw [e55] at h56
        have h57 := (bf_6_4 hP44).2; rw [e55] at h57
        obtain ⟨v58, e59⟩ : ∃ v, M43 6 5 = v := ⟨_, rfl⟩
        have h60 := (bf_6_5 hP44).1; rw [e59] at h60
        have h61 := (bf_6_5 hP44).2; rw [e59] at h61
        refine wk_popi r165_43 (wk_c1 r165_44 ?_)
        subst hQ; exact wk_iret r165_45 (⟨rfl, _, rfl, hP44, hF46, by omega, by omega, by have := ((hQ45.at g_9_3 rfl).trans ex9_3); omega, by have := ((hQ45.at g_9_3 rfl).trans ex9_3); omega, by have := ((hQ45.at g_9_2 rfl).trans ex9_2); omega, by have := ((hQ45.at g_9_2 rfl).trans ex9_2); have := ((hQ45.at g_9_3 rfl).trans ex9_3); omega, by have := e55; omega, by have := e59; omega, by have := ((hQ45.at g_9_3 rfl).trans ex9_3); have := ((hQ45.at g_9_2 rfl).trans ex9_2); have := e55; have := e59; have := naE_c T x9_1 x6_3 x9_3; have := nmI_c T x9_1 x9_3; have := tt_lt T x9_1 x9_3; have := nx_lt (T := T) (n := x9_1) (s := x9_3) (by omega); omega, (TXP_sm (Sm.fr hQ45 rfl) pp_TX), (TCP_sm (Sm.fr hQ45 rfl) pp_TC)⟩)
  · intro h62
    refine wk_al0 r165_10 (wk_c1 r165_11 (wk_cv2 r165_12 kc_6_159 rfl (n7159_6 _ M0 1 x9_3 hP0 (by decide) (by decide) ex9_3 (by first | with_reducible assumption | omega) (by first | with_reducible assumption | omega)) (cqI ?_)))
    rintro v71 M63 ⟨hP64, hQ65, h72, h73, h67, h68, h69, h70⟩
    have hF66 : Fr fm_n7165_6 M0 M63 := hF0.tr hQ65 rfl
    obtain ⟨v74, e75⟩ : ∃ v, M63 6 4 = v := ⟨_, rfl⟩
    have h76 := (bf_6_4 hP64).1; rw [e75] at h76
    have h77 := (bf_6_4 hP64).2; rw [e75] at h77
    obtain ⟨v78, e79⟩ : ∃ v, M63 6 5 = v := ⟨_, rfl⟩
    have h80 := (bf_6_5 hP64).1; rw [e79] at h80
    have h81 := (bf_6_5 hP64).2; rw [e79] at h81
    refine wk_popi r165_15 (wk_c1 r165_16 ?_)
    subst hQ; exact wk_iret r165_17 (⟨rfl, _, rfl, hP64, hF66, by omega, by omega, by have := ((hQ65.at g_9_3 rfl).trans ex9_3); omega, by have := ((hQ65.at g_9_3 rfl).trans ex9_3); omega, by have := ((hQ65.at g_9_2 rfl).trans ex9_2); omega, by have := ((hQ65.at g_9_2 rfl).trans ex9_2); have := ((hQ65.at g_9_3 rfl).trans ex9_3); omega, by have := e75; omega, by have := e79; omega, by have := ((hQ65.at g_9_3 rfl).trans ex9_3); have := ((hQ65.at g_9_2 rfl).trans ex9_2); have := e75; have := e79; have := naE_c T x9_1 x6_3 x9_3; have := nmI_c T x9_1 x9_3; have := tt_lt T x9_1 x9_3; have := nx_lt (T := T) (n := x9_1) (s := x9_3) (by omega); omega, (TXP_sm (Sm.fr hQ65 rfl) pp_TX), (TCP_sm (Sm.fr hQ65 rfl) pp_TC)⟩)
def fm_n7174_6 : Nat := 3941061990809600
/-- IslandHall$Parser.takeSign -/
theorem n7174_6 {B : eB} (d : Nat) (M0 : Mm) (p1 : Int) (x9_1 : Int) (x9_3 : Int) (x9_2 : Int) (x6_4 : Int) (x6_5 : Int) (T : Int → Int) (hP0 : Pw M0) (l1 : 40 ≤ p1) (u1 : p1 ≤ 62) (ex9_1 : M0 9 1 = x9_1) (lx9_1 : 0 ≤ x9_1) (ux9_1 : x9_1 ≤ 500) (ex9_3 : M0 9 3 = x9_3) (lx9_3 : 0 ≤ x9_3) (ux9_3 : x9_3 ≤ 500) (ex9_2 : M0 9 2 = x9_2) (lx9_2 : 0 ≤ x9_2) (ux9_2 : x9_2 ≤ 500) (ex6_4 : M0 6 4 = x6_4) (lx6_4 : 0 ≤ x6_4) (ux6_4 : x6_4 ≤ 6) (ex6_5 : M0 6 5 = x6_5) (lx6_5 : (-1) ≤ x6_5) (ux6_5 : x6_5 ≤ 500) (rp0 : 0 ≤ x9_1 + (-1) * x9_2) (rp1 : 0 ≤ x9_2 + (-1) * x9_3) (rp2 : 0 ≤ x9_1 + (-1) * x9_3) (pp_TX : TXP T M0) (pp_TC : TCP T M0) : Ct B (d + 3) 174 [R 6, I p1] M0 (qI fun z M => Pw M ∧ Fr fm_n7174_6 M0 M ∧ 0 ≤ z ∧ z ≤ 1 ∧ 0 ≤ M 9 3 + (-1) * x9_3 ∧ 0 ≤ x9_1 + (-1) * (M 9 3) ∧ 0 ≤ x9_1 + (-1) * (M 9 2) ∧ 0 ≤ M 9 2 + (-1) * (M 9 3) ∧ 0 ≤ M 6 4 ∧ 0 ≤ M 6 5 + 1 ∧ (z = 1 → 0 ≤ M 6 4 + (-1) * x6_4) ∧ (z = 1 → 0 ≤ (-1) * (M 6 4) + x6_4) ∧ (z = 1 → 0 ≤ M 6 5 + (-1) * x6_5) ∧ (z = 1 → 0 ≤ (-1) * (M 6 5) + x6_5) ∧ ((z = 1 ∧ sgI T x9_1 x9_3 p1 = 1 ∧ M 9 3 = nx T x9_1 x9_3 ∧ M 6 4 = x6_4 ∧ M 6 5 = x6_5 ∧ x9_3 + 1 ≤ M 9 3) ∨ (z = 0 ∧ sgI T x9_1 x9_3 p1 = 0 ∧ M 9 3 = x9_3 ∧ M 6 4 = 1 ∧ M 6 5 = x9_3)) ∧ (TXP T M) ∧ (TCP T M)) := by
  refine ct_of (d := d + 2) (k := 0) (L := [some (R 6), some (I p1)]) rfl rfl rfl ?_
  have hF0 := Fr.rf fm_n7174_6 M0
  generalize hQ : (qI fun z M => Pw M ∧ Fr fm_n7174_6 M0 M ∧ 0 ≤ z ∧ z ≤ 1 ∧ 0 ≤ M 9 3 + (-1) * x9_3 ∧ 0 ≤ x9_1 + (-1) * (M 9 3) ∧ 0 ≤ x9_1 + (-1) * (M 9 2) ∧ 0 ≤ M 9 2 + (-1) * (M 9 3) ∧ 0 ≤ M 6 4 ∧ 0 ≤ M 6 5 + 1 ∧ (z = 1 → 0 ≤ M 6 4 + (-1) * x6_4) ∧ (z = 1 → 0 ≤ (-1) * (M 6 4) + x6_4) ∧ (z = 1 → 0 ≤ M 6 5 + (-1) * x6_5) ∧ (z = 1 → 0 ≤ (-1) * (M 6 5) + x6_5) ∧ ((z = 1 ∧ sgI T x9_1 x9_3 p1 = 1 ∧ M 9 3 = nx T x9_1 x9_3 ∧ M 6 4 = x6_4 ∧ M 6 5 = x6_5 ∧ x9_3 + 1 ≤ M 9 3) ∨ (z = 0 ∧ sgI T x9_1 x9_3 p1 = 0 ∧ M 9 3 = x9_3 ∧ M 6 4 = 1 ∧ M 6 5 = x9_3)) ∧ (TXP T M) ∧ (TCP T M)) = Q
  refine wk_al0 r174_0 (wk_getfr r174_1 fd_6_0 (br_6_0 hP0) (wk_il1 r174_4 (wk_cv2 r174_5 kc_9_238 rfl (n7238_9 _ M0 p1 x9_1 x9_3 T hP0 (by first | with_reducible assumption | omega) (by first | with_reducible assumption | omega) ex9_1 (by first | with_reducible assumption | omega) (by first | with_reducible assumption | omega) ex9_3 (by first | with_reducible assumption | omega) (by first | with_reducible assumption | omega) pp_TX pp_TC) (cqI ?_))))
  rintro v6 M1 ⟨hP2, hQ3, h7, h8, xh5⟩
  obtain rfl := Fr.same hQ3
  refine wk_ifne r174_8 ⟨by omega, by omega⟩ ?_ ?_
  · intro h9
    refine wk_al0 r174_17 (wk_getfr r174_18 fd_6_0 (br_6_0 hP0) (wk_cv1 r174_21 kc_9_241 rfl (n7241_9 _ M0 x9_1 x9_2 T hP0 ex9_1 (by first | with_reducible assumption | omega) (by first | with_reducible assumption | omega) ex9_2 (by first | with_reducible assumption | omega) (by first | with_reducible assumption | omega) (by omega) pp_TX) (cqV ?_)))
    rintro M10 ⟨hP11, hQ12, h14, h15, h16, h17, xh18, pr19, pr20⟩
    have hF13 : Fr fm_n7174_6 M0 M10 := hF0.tr hQ12 rfl
    obtain ⟨v21, e22⟩ : ∃ v, M10 9 3 = v := ⟨_, rfl⟩
    have h23 := (bf_9_3 hP11).1; rw [e22] at h23
    have h24 := (bf_9_3 hP11).2; rw [e22] at h24
    obtain ⟨v25, e26⟩ : ∃ v, M10 9 2 = v := ⟨_, rfl⟩
    have h27 := (bf_9_2 hP11).1; rw [e26] at h27
    have h28 := (bf_9_2 hP11).2; rw [e26] at h28
    have hn29 := nx_of pp_TC ex9_1 ex9_3 ex9_2 xh18
    refine wk_c1 r174_24 ?_
    subst hQ; exact wk_zret r174_25 (by decide) (⟨rfl, _, rfl, hP11, hF13, by omega, by omega, by have := e22; omega, by have := e22; omega, by have := e26; omega, by have := e26; have := e22; omega, by have := ((hQ12.at g_6_4 rfl).trans ex6_4); omega, by have := ((hQ12.at g_6_5 rfl).trans ex6_5); omega, by have := ((hQ12.at g_6_4 rfl).trans ex6_4); omega, by have := ((hQ12.at g_6_4 rfl).trans ex6_4); omega, by have := ((hQ12.at g_6_5 rfl).trans ex6_5); omega, by have := ((hQ12.at g_6_5 rfl).trans ex6_5); omega, by have := e22; have := e26; have := ((hQ12.at g_6_4 rfl).trans ex6_4); have := ((hQ12.at g_6_5 rfl).trans ex6_5); have := sgI_c T x9_1 x9_3 p1; have := tt_lt T x9_1 x9_3; have := nx_lt (T := T) (n := x9_1) (s := x9_3) (by omega); omega, pr19, pr20⟩)
  · intro h30
    refine wk_al0 r174_11 (wk_c1 r174_12 (wk_cv2 r174_13 kc_6_159 rfl (n7159_6 _ M0 1 x9_3 hP0 (by decide) (by decide) ex9_3 (by first | with_reducible assumption | omega) (by first | with_reducible assumption | omega)) (cqI ?_)))
    rintro v39 M31 ⟨hP32, hQ33, h40, h41, h35, h36, h37, h38⟩
    have hF34 : Fr fm_n7174_6 M0 M31 := hF0.tr hQ33 rfl
    obtain ⟨v42, e43⟩ : ∃ v, M31 6 4 = v := ⟨_, rfl⟩
    have h44 := (bf_6_4 hP32).1; rw [e43] at h44
    have h45 := (bf_6_4 hP32).2; rw [e43] at h45
    obtain ⟨v46, e47⟩ : ∃ v, M31 6 5 = v := ⟨_, rfl⟩
    have h48 := (bf_6_5 hP32).1; rw [e47] at h48
    have h49 := (bf_6_5 hP32).2; rw [e47] at h49
    subst hQ; exact wk_zret r174_16 ⟨by omega, by omega⟩ (⟨rfl, _, rfl, hP32, hF34, by omega, by omega, by have := ((hQ33.at g_9_3 rfl).trans ex9_3); omega, by have := ((hQ33.at g_9_3 rfl).trans ex9_3); omega, by have := ((hQ33.at g_9_2 rfl).trans ex9_2); omega, by have := ((hQ33.at g_9_2 rfl).trans ex9_2); have := ((hQ33.at g_9_3 rfl).trans ex9_3); omega, by have := e43; omega, by have := e47; omega, by omega, by omega, by omega, by omega, by have := ((hQ33.at g_9_3 rfl).trans ex9_3); have := ((hQ33.at g_9_2 rfl).trans ex9_2); have := e43; have := e47; have := sgI_c T x9_1 x9_3 p1; have := tt_lt T x9_1 x9_3; have := nx_lt (T := T) (n := x9_1) (s := x9_3) (by omega); omega, (TXP_sm (Sm.fr hQ33 rfl) pp_TX), (TCP_sm (Sm.fr hQ33 rfl) pp_TC)⟩)
def fm_n7168_6 : Nat := 3941070043873280
/-- IslandHall$Parser.parenthesis -/
theorem n7168_6 {B : eB} (d : Nat) (M0 : Mm) (p1 : Int) (x9_1 : Int) (x9_3 : Int) (x9_2 : Int) (x6_4 : Int) (x6_5 : Int) (x6_3 : Int) (T : Int → Int) (c0 : Cg) (z0 : Og) (o : List Int) (w : List Int) (b : Int) (hP0 : Pw M0) (l1 : 0 ≤ p1) (u1 : p1 ≤ 5) (ex9_1 : M0 9 1 = x9_1) (lx9_1 : 0 ≤ x9_1) (ux9_1 : x9_1 ≤ 500) (ex9_3 : M0 9 3 = x9_3) (lx9_3 : 0 ≤ x9_3) (ux9_3 : x9_3 ≤ 500) (ex9_2 : M0 9 2 = x9_2) (lx9_2 : 0 ≤ x9_2) (ux9_2 : x9_2 ≤ 500) (ex6_4 : M0 6 4 = x6_4) (lx6_4 : 0 ≤ x6_4) (ux6_4 : x6_4 ≤ 6) (ex6_5 : M0 6 5 = x6_5) (lx6_5 : (-1) ≤ x6_5) (ux6_5 : x6_5 ≤ 500) (ex6_3 : M0 6 3 = x6_3) (lx6_3 : (-1) ≤ x6_3) (ux6_3 : x6_3 ≤ 7) (rp0 : 0 ≤ x9_1 + (-1) * x9_2) (rp1 : 0 ≤ x9_2 + (-1) * x9_3) (rp2 : 0 ≤ x9_1 + (-1) * x9_3) (rp3 : 0 ≤ (-1) * x6_3 + 7) (xp0 : PXx T x9_1 x6_3 c0 z0 (p1 + 1) x9_3 o w b) (xp1 : b % 16 = 14) (xp2 : 2 * ((CLm M0).length : Int) ≤ x9_3 + 2) (pp_TX : TXP T M0) (pp_TC : TCP T M0) (hX : p1 ≤ 5 → ∀ d2 : Nat, d ≤ d2 → ∀ (M0 : Mm) (x9_1 : Int) (x9_3 : Int) (x9_2 : Int) (x6_4 : Int) (x6_5 : Int) (x6_3 : Int) (T : Int → Int) (c0 : Cg) (z0 : Og) (o : List Int) (w : List Int) (hP0 : Pw M0) (ex9_1 : M0 9 1 = x9_1) (lx9_1 : 0 ≤ x9_1) (ux9_1 : x9_1 ≤ 500) (ex9_3 : M0 9 3 = x9_3) (lx9_3 : 0 ≤ x9_3) (ux9_3 : x9_3 ≤ 500) (ex9_2 : M0 9 2 = x9_2) (lx9_2 : 0 ≤ x9_2) (ux9_2 : x9_2 ≤ 500) (ex6_4 : M0 6 4 = x6_4) (lx6_4 : 0 ≤ x6_4) (ux6_4 : x6_4 ≤ 6) (ex6_5 : M0 6 5 = x6_5) (lx6_5 : (-1) ≤ x6_5) (ux6_5 : x6_5 ≤ 500) (ex6_3 : M0 6 3 = x6_3) (lx6_3 : (-1) ≤ x6_3) (ux6_3 : x6_3 ≤ 7) (rp0 : 0 ≤ x9_1 + (-1) * x9_2) (rp1 : 0 ≤ x9_2 + (-1) * x9_3) (rp2 : 0 ≤ x9_1 + (-1) * x9_3) (rp3 : 0 ≤ (-1) * x6_3 + 7) (xp0 : RQ T x9_1 x6_3 (c0, z0) ((0, (p1 + 1), x9_3, 0), (o, w))) (xp1 : fix 1 w) (xp2 : 2 * ((CLm M0).length : Int) ≤ x9_3 + 2) (pp_TX : TXP T M0) (pp_TC : TCP T M0), Ct B (d2 + 20) 158 [R 6, I (p1 + 1)] M0 (qI fun z M => Pw M ∧ Fr fm_n7158_6E M0 M ∧ 0 ≤ z ∧ z ≤ 1 ∧ 0 ≤ M 9 3 + (-1) * x9_3 ∧ 0 ≤ x9_1 + (-1) * (M 9 3) ∧ 0 ≤ x9_1 + (-1) * (M 9 2) ∧ 0 ≤ M 9 2 + (-1) * (M 9 3) ∧ 0 ≤ M 6 4 ∧ 0 ≤ M 6 5 + 1 ∧ (z = 1 → 0 ≤ M 6 4 + (-1) * x6_4) ∧ (z = 1 → 0 ≤ (-1) * (M 6 4) + x6_4) ∧ (z = 1 → 0 ≤ M 6 5 + (-1) * x6_5) ∧ (z = 1 → 0 ≤ (-1) * (M 6 5) + x6_5) ∧ ((z = 1 ∧ XN T x9_1 x6_3 c0 z0 ((p1 + 1) + 1) (M 9 3) o w 1 (CLm M0) (CLm M) (13 - 2 * (p1 + 1)) x9_3 ∧ kw T x9_1 (M 9 3) ≠ 12 ∧ kw T x9_1 (M 9 3) ≠ 13) ∨ (z = 0 ∧ Rch T x9_1 x6_3 c0 (3, 0, M 6 5, M 6 4))) ∧ (TXP T M) ∧ (TCP T M) ∧ (OCe M M0))) : Ct B (d + 21) 168 [R 6, I p1] M0 (qI fun z M => Pw M ∧ Fr fm_n7168_6 M0 M ∧ 0 ≤ z ∧ z ≤ 1 ∧ 0 ≤ M 9 3 + (-1) * x9_3 ∧ 0 ≤ x9_1 + (-1) * (M 9 3) ∧ 0 ≤ x9_1 + (-1) * (M 9 2) ∧ 0 ≤ M 9 2 + (-1) * (M 9 3) ∧ 0 ≤ M 6 4 ∧ 0 ≤ M 6 5 + 1 ∧ (z = 1 → 0 ≤ M 6 4 + (-1) * x6_4) ∧ (z = 1 → 0 ≤ (-1) * (M 6 4) + x6_4) ∧ (z = 1 → 0 ≤ M 6 5 + (-1) * x6_5) ∧ (z = 1 → 0 ≤ (-1) * (M 6 5) + x6_5) ∧ ((z = 1 ∧ XP T x9_1 x6_3 c0 z0 (p1 + 1) (M 9 3) o w b (CLm M0) (CLm M) (11 - 2 * p1) x9_3) ∨ (z = 0 ∧ Rch T x9_1 x6_3 c0 (3, 0, M 6 5, M 6 4))) ∧ (TXP T M) ∧ (TCP T M) ∧ (OCe M M0)) := by
  refine ct_of (d := d + 20) (k := 0) (L := [some (R 6), some (I p1)]) rfl rfl rfl ?_
  have hF0 := Fr.rf fm_n7168_6 M0
  generalize hQ : (qI fun z M => Pw M ∧ Fr fm_n7168_6 M0 M ∧ 0 ≤ z ∧ z ≤ 1 ∧ 0 ≤ M 9 3 + (-1) * x9_3 ∧ 0 ≤ x9_1 + (-1) * (M 9 3) ∧ 0 ≤ x9_1 + (-1) * (M 9 2) ∧ 0 ≤ M 9 2 + (-1) * (M 9 3) ∧ 0 ≤ M 6 4 ∧ 0 ≤ M 6 5 + 1 ∧ (z = 1 → 0 ≤ M 6 4 + (-1) * x6_4) ∧ (z = 1 → 0 ≤ (-1) * (M 6 4) + x6_4) ∧ (z = 1 → 0 ≤ M 6 5 + (-1) * x6_5) ∧ (z = 1 → 0 ≤ (-1) * (M 6 5) + x6_5) ∧ ((z = 1 ∧ XP T x9_1 x6_3 c0 z0 (p1 + 1) (M 9 3) o w b (CLm M0) (CLm M) (11 - 2 * p1) x9_3) ∨ (z = 0 ∧ Rch T x9_1 x6_3 c0 (3, 0, M 6 5, M 6 4))) ∧ (TXP T M) ∧ (TCP T M) ∧ (OCe M M0)) = Q
  have hCe : CLe M0 (CLm M0) := ⟨pcE hP0, rfl⟩
  have hOe : OCe M0 M0 := OCe_rf M0
  refine wk_al0 r168_0 (wk_c2 r168_1 (wk_cv2 r168_3 kc_6_174 rfl (n7174_6 _ M0 40 x9_1 x9_3 x9_2 x6_4 x6_5 T hP0 (by decide) (by decide) ex9_1 (by first | with_reducible assumption | omega) (by first | with_reducible assumption | omega) ex9_3 (by first | with_reducible assumption | omega) (by first | with_reducible assumption | omega) ex9_2 (by first | with_reducible assumption | omega) (by first | with_reducible assumption | omega) ex6_4 (by first | with_reducible assumption | omega) (by first | with_reducible assumption | omega) ex6_5 (by first | with_reducible assumption | omega) (by first | with_reducible assumption | omega) (by omega) (by omega) (by omega) pp_TX pp_TC) (cqI ?_)))
  rintro v18 M1 ⟨hP2, hQ3, h19, h20, h5, h6, h7, h8, h9, h10, h11, h12, h13, h14, xh15, pr16, pr17⟩
  have hF4 : Fr fm_n7168_6 M0 M1 := hF0.tr hQ3 rfl
  obtain ⟨v21, e22⟩ : ∃ v, M1 9 3 = v := ⟨_, rfl⟩
  have h23 := (bf_9_3 hP2).1; rw [e22] at h23
  have h24 := (bf_9_3 hP2).2; rw [e22] at h24
  obtain ⟨v25, e26⟩ : ∃ v, M1 9 2 = v := ⟨_, rfl⟩
  have h27 := (bf_9_2 hP2).1; rw [e26] at h27
  have h28 := (bf_9_2 hP2).2; rw [e26] at h28
  obtain ⟨v29, e30⟩ : ∃ v, M1 6 4 = v := ⟨_, rfl⟩
  have h31 := (bf_6_4 hP2).1; rw [e30] at h31
  have h32 := (bf_6_4 hP2).2; rw [e30] at h32
  obtain ⟨v33, e34⟩ : ∃ v, M1 6 5 = v := ⟨_, rfl⟩
  have h35 := (bf_6_5 hP2).1; rw [e34] at h35
  have h36 := (bf_6_5 hP2).2; rw [e34] at h36
  refine wk_ifeq r168_6 ⟨by omega, by omega⟩ ?_ ?_
  · intro h37
    clear h11 h12 h13 h14
    refine wk_c1 r168_32 ?_
    subst hQ; exact wk_zret r168_33 (by decide) (⟨rfl, _, rfl, hP2, hF4, by omega, by omega, by have := e22; omega, by have := e22; omega, by have := e26; omega, by have := e26; have := e22; omega, by have := e30; omega, by have := e34; omega, by omega, by omega, by omega, by omega, Or.inr ⟨by omega, by rw [e34, e30]; exact PXx_0 xp0 (by omega) (by omega) (by omega)⟩, pr16, pr17, (OCe_sm (Sm.fr hQ3 rfl) hOe)⟩)
  · intro h38
    replace h11 := h11 (z1_of h19 h20 h38)
    replace h12 := h12 (z1_of h19 h20 h38)
    replace h13 := h13 (z1_of h19 h20 h38)
    replace h14 := h14 (z1_of h19 h20 h38)
    refine wk_al0 r168_9 (wk_il1 r168_10 (wk_c1 r168_11 (wk_iadd r168_12 (wk_cv2 r168_13 kc_6_158 rfl (hX (by omega) _ (by omega) M1 x9_1 v21 v25 v29 v33 x6_3 T c0 z0 o ((b :: w)) hP2 ((hQ3.at g_9_1 rfl).trans ex9_1) (by first | with_reducible assumption | omega) (by first | with_reducible assumption | omega) e22 (by first | with_reducible assumption | omega) (by first | with_reducible assumption | omega) e26 (by first | with_reducible assumption | omega) (by first | with_reducible assumption | omega) e30 (by first | with_reducible assumption | omega) (by first | with_reducible assumption | omega) e34 (by first | with_reducible assumption | omega) (by first | with_reducible assumption | omega) ((hQ3.at g_6_3 rfl).trans ex6_3) (by first | with_reducible assumption | omega) (by first | with_reducible assumption | omega) (by omega) (by omega) (by omega) (by omega) (PXx_1 xp0 (by omega) (by omega)) (fix_op xp1 _) (CLe_len (CLe_sm (Sm.fr hQ3 rfl) hCe) (by omega)) pr16 pr17) (cqI ?_)))))
    rintro v57 M39 ⟨hP40, hQ41, h58, h59, h43, h44, h45, h46, h47, h48, h49, h50, h51, h52, xh53, pr54, pr55, pr56⟩
    have hF42 : Fr fm_n7168_6 M0 M39 := hF4.tr hQ41 rfl
    have pr60 : OCe M39 M0 := OCe_tr pr56 (OCe_sm (Sm.fr hQ3 rfl) hOe)
    obtain ⟨v61, e62⟩ : ∃ v, M39 9 3 = v := ⟨_, rfl⟩
    have h63 := (bf_9_3 hP40).1; rw [e62] at h63
    have h64 := (bf_9_3 hP40).2; rw [e62] at h64
    obtain ⟨v65, e66⟩ : ∃ v, M39 9 2 = v := ⟨_, rfl⟩
    have h67 := (bf_9_2 hP40).1; rw [e66] at h67
    have h68 := (bf_9_2 hP40).2; rw [e66] at h68
    obtain ⟨v69, e70⟩ : ∃ v, M39 6 4 = v := ⟨_, rfl⟩
    have h71 := (bf_6_4 hP40).1; rw [e70] at h71
    have h72 := (bf_6_4 hP40).2; rw [e70] at h72
    obtain ⟨v73, e74⟩ : ∃ v, M39 6 5 = v := ⟨_, rfl⟩
    have h75 := (bf_6_5 hP40).1; rw [e74] at h75
    have h76 := (bf_6_5 hP40).2; rw [e74] at h76
    refine wk_ifeq r168_16 ⟨by omega, by omega⟩ ?_ ?_
    · intro h77
      clear h49 h50 h51 h52
      refine wk_c1 r168_32 ?_
      subst hQ; exact wk_zret r168_33 (by decide) (⟨rfl, _, rfl, hP40, hF42, by omega, by omega, by have := e62; omega, by have := e62; omega, by have := e66; omega, by have := e66; have := e62; omega, by have := e70; omega, by have := e74; omega, by omega, by omega, by omega, by omega, Or.inr ⟨by omega, by rw [e74, e70]; exact F_k (or_r xh53 (by omega)) (by omega) (by omega)⟩, pr54, pr55, pr60⟩)
    · intro h78
      replace h49 := h49 (z1_of h58 h59 h78)
      replace h50 := h50 (z1_of h58 h59 h78)
      replace h51 := h51 (z1_of h58 h59 h78)
      replace h52 := h52 (z1_of h58 h59 h78)
      have r2 := or_l xh53 (by omega); rw [e62, ((CLe_sm (Sm.fr hQ3 rfl) hCe)).2] at r2
      have pr79 : CLe M39 (CLm M39) := ⟨pcE hP40, rfl⟩
      refine wk_al0 r168_19 (wk_c2 r168_20 (wk_cv2 r168_22 kc_6_174 rfl (n7174_6 _ M39 41 x9_1 v61 v65 v69 v73 T hP40 (by decide) (by decide) ((hQ41.at g_9_1 rfl).trans ((hQ3.at g_9_1 rfl).trans ex9_1)) (by first | with_reducible assumption | omega) (by first | with_reducible assumption | omega) e62 (by first | with_reducible assumption | omega) (by first | with_reducible assumption | omega) e66 (by first | with_reducible assumption | omega) (by first | with_reducible assumption | omega) e70 (by first | with_reducible assumption | omega) (by first | with_reducible assumption | omega) e74 (by first | with_reducible assumption | omega) (by first | with_reducible assumption | omega) (by omega) (by omega) (by omega) pr54 pr55) (cqI ?_)))
      rintro v97 M80 ⟨hP81, hQ82, h98, h99, h84, h85, h86, h87, h88, h89, h90, h91, h92, h93, xh94, pr95, pr96⟩
      have hF83 : Fr fm_n7168_6 M0 M80 := hF42.tr hQ82 rfl
      obtain ⟨v100, e101⟩ : ∃ v, M80 9 3 = v := ⟨_, rfl⟩
      have h102 := (bf_9_3 hP81).1; rw [e101] at h102
      have h103 := (bf_9_3 hP81).2; rw [e101] at h103
      obtain ⟨v104, e105⟩ : ∃ v, M80 9 2 = v := ⟨_, rfl⟩
      have h106 := (bf_9_2 hP81).1; rw [e105] at h106
      have h107 := (bf_9_2 hP81).2; rw [e105] at h107
      obtain ⟨v108, e109⟩ : ∃ v, M80 6 4 = v := ⟨_, rfl⟩
      have h110 := (bf_6_4 hP81).1; rw [e109] at h110
      have h111 := (bf_6_4 hP81).2; rw [e109] at h111
      obtain ⟨v112, e113⟩ : ∃ v, M80 6 5 = v := ⟨_, rfl⟩
      have h114 := (bf_6_5 hP81).1; rw [e113] at h114
      have h115 := (bf_6_5 hP81).2; rw [e113] at h115
      refine wk_ifeq r168_25 ⟨by omega, by omega⟩ ?_ ?_
      · intro h116
        clear h90 h91 h92 h93
        refine wk_c1 r168_32 ?_
        subst hQ; exact wk_zret r168_33 (by decide) (⟨rfl, _, rfl, hP81, hF83, by omega, by omega, by have := e101; omega, by have := e101; omega, by have := e105; omega, by have := e105; have := e101; omega, by have := e109; omega, by have := e113; omega, by omega, by omega, by omega, by omega, Or.inr ⟨by omega, by rw [e113, e109]; exact X_n (d := p1 + 1 + 1) (XN_r r2.1) (by have := r2.2; omega) (by omega) (by omega) (by omega) (by omega)⟩, pr95, pr96, (OCe_sm (Sm.fr hQ82 rfl) pr60)⟩)
      · intro h117
        replace h90 := h90 (z1_of h98 h99 h117)
        replace h91 := h91 (z1_of h98 h99 h117)
        replace h92 := h92 (z1_of h98 h99 h117)
        replace h93 := h93 (z1_of h98 h99 h117)
        refine wk_c1 r168_28 (wk_goto r168_29 ?_)
        subst hQ; exact wk_zret r168_33 (by decide) (⟨rfl, _, rfl, hP81, hF83, by omega, by omega, by have := e101; omega, by have := e101; omega, by have := e105; omega, by have := e105; have := e101; omega, by have := e109; omega, by have := e113; omega, by have := e109; omega, by have := e109; omega, by have := e113; omega, by have := e113; omega, Or.inl ⟨by omega, by rw [e101]; exact (by rw [((CLe_sm (Sm.fr hQ82 rfl) pr79)).2]; exact XP_of (d := p1 + 1 + 1) (g := 11 - 2 * p1) (XN_c r2.1 rfl rfl (by omega)) (by omega) (by omega) (by omega) (by omega) (by omega) (by omega))⟩, pr95, pr96, (OCe_sm (Sm.fr hQ82 rfl) pr60)⟩)
def fm_n7139 : Nat := 5905580032
/-- IslandHall$Code.addSays -/
theorem n7139 {B : eB} (d : Nat) (M0 : Mm) (c0 : Int) (p1 : Int) (hP0 : Pw M0) (hC0 : isC c0) (l1 : 0 ≤ p1) (u1 : p1 ≤ 6) : Ct B (d + 2) 139 [R c0, I p1] M0 (qV fun M => Pw M ∧ Fr fm_n7139 M0 M ∧ (∀ c : Int, isC c → c ≠ c0 → CL M c = CL M0 c) ∧ (M0 c0 1 < 256 → CL M c0 = CL M0 c0 ++ [4 + 8 * p1])) := by
  refine ct_of (d := d + 1) (k := 0) (L := [some (R c0), some (I p1)]) rfl rfl rfl ?_
  have hF0 := Fr.rf fm_n7139 M0
  generalize hQ : (qV fun M => Pw M ∧ Fr fm_n7139 M0 M ∧ (∀ c : Int, isC c → c ≠ c0 → CL M c = CL M0 c) ∧ (M0 c0 1 < 256 → CL M c0 = CL M0 c0 ++ [4 + 8 * p1])) = Q
  refine wk_al0 r139_0 (wk_c1 r139_1 (wk_il1 r139_2 (wk_cv3 r139_3 (kcC_138 hC0) rfl (n7138 _ M0 c0 4 p1 hP0 hC0 (by decide) (by decide) (by first | with_reducible assumption | omega) (by first | with_reducible assumption | omega) (by first | assumption | omega | (unfold stepok; omega))) (cqV ?_))))
  rintro M1 ⟨hP2, hQ3, xh5, xh6⟩
  have hF4 : Fr fm_n7139 M0 M1 := hF0.tr hQ3 rfl
  refine wk_al0 r139_6 (wk_dupr r139_7 (wk_getfb r139_8 (fdC_2 hC0) (bC_2 hP2 hC0) ?_))
  intro v7 h9 h10 e8
  refine wk_c1 r139_11 (wk_il1 r139_12 (wk_shl1 6 64 r139_13 ⟨by omega, by omega⟩ ⟨pwl_6, by decide⟩ ?_))
  intro v11 h12 h13 h14
  refine wk_ior 7 128 r139_14 (by decide) ⟨by omega, by omega⟩ ⟨by omega, by omega⟩ ?_
  intro v15 h16 h17 h18 h19 h20
  refine wk_putfi81 r139_15 (fdC_2 hC0) (wk_nw (g_c2 hC0) rfl hP2 hF4 (uC_2 hC0 ⟨by omega, by omega⟩) ?_)
  intro M21 hP22 hF23 e24
  subst hQ; exact wk_ret r139_18 (⟨rfl, hP22, hF23, fun c hc hn => (CL_ot1 hC0 e24 c hc hn).trans (xh5 c hc hn), fun q => (CL_cg (by rw [e24, mUp_ne (Or.inr (by decide))]) (fun k => by rw [e24, mUp_ne (Or.inl (by omega))])).trans (xh6 q)⟩)
def fm_n7171_6v3 : Nat := 4831838208
/-- IslandHall$Parser.row -/
theorem n7171_6v3 {B : eB} (d : Nat) (M0 : Mm) (p1 : Int) (p2 : Int) (hP0 : Pw M0) (l1 : 0 ≤ p1) (u1 : p1 ≤ 30) (l2 : (-1) ≤ p2) (u2 : p2 ≤ 4) : Ct B (d + 3) 171 [R 6, I p1, I p2] M0 (qI fun z M => Pw M ∧ Fr fm_n7171_6v3 M0 M ∧ 0 ≤ z ∧ z ≤ 1 ∧ ((z = 1 ∧ p2 ≠ -1 ∧ ∀ L : List Int, CLe M0 L → (L.length : Int) < 256 → CLe M (L ++ [8 * (p1 + p2)])) ∨ (z = 0 ∧ p2 = -1)) ∧ (OCe M M0)) := by
  refine ct_of (d := d + 2) (k := 0) (L := [some (R 6), some (I p1), some (I p2)]) rfl rfl rfl ?_
  have hF0 := Fr.rf fm_n7171_6v3 M0
  generalize hQ : (qI fun z M => Pw M ∧ Fr fm_n7171_6v3 M0 M ∧ 0 ≤ z ∧ z ≤ 1 ∧ ((z = 1 ∧ p2 ≠ -1 ∧ ∀ L : List Int, CLe M0 L → (L.length : Int) < 256 → CLe M (L ++ [8 * (p1 + p2)])) ∨ (z = 0 ∧ p2 = -1)) ∧ (OCe M M0)) = Q
  have hOe : OCe M0 M0 := OCe_rf M0
  refine wk_il2 r171_0 (wk_c1 r171_1 ?_)
  refine wk_iceq r171_2 ⟨by omega, by omega⟩ (by decide) ?_ ?_
  · intro h1
    refine wk_c1 r171_20 ?_
    subst hQ; exact wk_zret r171_21 (by decide) (⟨rfl, _, rfl, hP0, hF0, by omega, by omega, Or.inr ⟨by omega, by omega⟩, hOe⟩)
  · intro h2
    refine wk_al0 r171_5 (wk_c1 r171_6 (wk_il1 r171_7 (wk_il2 r171_8 (wk_iadd r171_9 (wk_cv3 r171_10 kc_6_172 rfl (n7172_6 _ M0 0 (p1 + p2) hP0 (by decide) (by decide) (by first | with_reducible assumption | omega) (by first | with_reducible assumption | omega) (by first | assumption | omega | (unfold stepok; omega))) (cqI ?_))))))
    rintro v9 M3 ⟨hP4, hQ5, h10, h11, xh7, pr8⟩
    have hF6 : Fr fm_n7171_6v3 M0 M3 := hF0.tr hQ5 rfl
    have pr12 : OCe M3 M0 := OCe_tr pr8 hOe
    refine wk_ifeq r171_13 ⟨by omega, by omega⟩ ?_ ?_
    · intro h13
      exfalso
      omega
    · intro h14
      refine wk_c1 r171_16 (wk_goto r171_17 ?_)
      subst hQ; exact wk_zret r171_21 (by decide) (⟨rfl, _, rfl, hP4, hF6, by omega, by omega, Or.inl ⟨by omega, by omega, fun L hL hl => by have q8 := xh7 L hL hl; rw [show 0 + 8 * (p1 + p2) = 8 * (p1 + p2) by omega] at q8; exact q8⟩, pr12⟩)
def fm_n7152_6 : Nat := 3941070043873280
set_option maxHeartbeats 20000000 in
/-- IslandHall$Parser.aboutSomeone -/
theorem n7152_6 {B : eB} (d : Nat) (M0 : Mm) (p1 : Int) (x9_1 : Int) (x9_3 : Int) (x9_2 : Int) (x6_4 : Int) (x6_5 : Int) (x6_3 : Int) (T : Int → Int) (c0 : Cg) (z0 : Og) (o : List Int) (w : List Int) (gk : Int) (hP0 : Pw M0) (l1 : 0 ≤ p1) (u1 : p1 ≤ 5) (ex9_1 : M0 9 1 = x9_1) (lx9_1 : 0 ≤ x9_1) (ux9_1 : x9_1 ≤ 500) (ex9_3 : M0 9 3 = x9_3) (lx9_3 : 0 ≤ x9_3) (ux9_3 : x9_3 ≤ 500) (ex9_2 : M0 9 2 = x9_2) (lx9_2 : 0 ≤ x9_2) (ux9_2 : x9_2 ≤ 500) (ex6_4 : M0 6 4 = x6_4) (lx6_4 : 0 ≤ x6_4) (ux6_4 : x6_4 ≤ 6) (ex6_5 : M0 6 5 = x6_5) (lx6_5 : (-1) ≤ x6_5) (ux6_5 : x6_5 ≤ 500) (ex6_3 : M0 6 3 = x6_3) (lx6_3 : (-1) ≤ x6_3) (ux6_3 : x6_3 ≤ 7) (rp0 : 0 ≤ x9_1 + (-1) * x9_2) (rp1 : 0 ≤ x9_2 + (-1) * x9_3) (rp2 : 0 ≤ x9_1 + (-1) * x9_3) (rp3 : 0 ≤ (-1) * x6_3 + 7) (xp0 : RQ T x9_1 x6_3 (c0, z0) ((1, p1 + 1, x9_3, gk), (o, w))) (xp1 : nmI T x9_1 x9_3 = 1) (xp2 : 2 * ((CLm M0).length : Int) ≤ x9_3 + 2) (pp_TX : TXP T M0) (pp_TC : TCP T M0) (hX : p1 ≤ 5 → ∀ d2 : Nat, d ≤ d2 → ∀ (M0 : Mm) (x9_1 : Int) (x9_3 : Int) (x9_2 : Int) (x6_4 : Int) (x6_5 : Int) (x6_3 : Int) (T : Int → Int) (c0 : Cg) (z0 : Og) (o : List Int) (w : List Int) (hP0 : Pw M0) (ex9_1 : M0 9 1 = x9_1) (lx9_1 : 0 ≤ x9_1) (ux9_1 : x9_1 ≤ 500) (ex9_3 : M0 9 3 = x9_3) (lx9_3 : 0 ≤ x9_3) (ux9_3 : x9_3 ≤ 500) (ex9_2 : M0 9 2 = x9_2) (lx9_2 : 0 ≤ x9_2) (ux9_2 : x9_2 ≤ 500) (ex6_4 : M0 6 4 = x6_4) (lx6_4 : 0 ≤ x6_4) (ux6_4 : x6_4 ≤ 6) (ex6_5 : M0 6 5 = x6_5) (lx6_5 : (-1) ≤ x6_5) (ux6_5 : x6_5 ≤ 500) (ex6_3 : M0 6 3 = x6_3) (lx6_3 : (-1) ≤ x6_3) (ux6_3 : x6_3 ≤ 7) (rp0 : 0 ≤ x9_1 + (-1) * x9_2) (rp1 : 0 ≤ x9_2 + (-1) * x9_3) (rp2 : 0 ≤ x9_1 + (-1) * x9_3) (rp3 : 0 ≤ (-1) * x6_3 + 7) (xp0 : RQ T x9_1 x6_3 (c0, z0) ((0, (p1 + 1), x9_3, 0), (o, w))) (xp1 : fix 1 w) (xp2 : 2 * ((CLm M0).length : Int) ≤ x9_3 + 2) (pp_TX : TXP T M0) (pp_TC : TCP T M0), Ct B (d2 + 20) 158 [R 6, I (p1 + 1)] M0 (qI fun z M => Pw M ∧ Fr fm_n7158_6E M0 M ∧ 0 ≤ z ∧ z ≤ 1 ∧ 0 ≤ M 9 3 + (-1) * x9_3 ∧ 0 ≤ x9_1 + (-1) * (M 9 3) ∧ 0 ≤ x9_1 + (-1) * (M 9 2) ∧ 0 ≤ M 9 2 + (-1) * (M 9 3) ∧ 0 ≤ M 6 4 ∧ 0 ≤ M 6 5 + 1 ∧ (z = 1 → 0 ≤ M 6 4 + (-1) * x6_4) ∧ (z = 1 → 0 ≤ (-1) * (M 6 4) + x6_4) ∧ (z = 1 → 0 ≤ M 6 5 + (-1) * x6_5) ∧ (z = 1 → 0 ≤ (-1) * (M 6 5) + x6_5) ∧ ((z = 1 ∧ XN T x9_1 x6_3 c0 z0 ((p1 + 1) + 1) (M 9 3) o w 1 (CLm M0) (CLm M) (13 - 2 * (p1 + 1)) x9_3 ∧ kw T x9_1 (M 9 3) ≠ 12 ∧ kw T x9_1 (M 9 3) ≠ 13) ∨ (z = 0 ∧ Rch T x9_1 x6_3 c0 (3, 0, M 6 5, M 6 4))) ∧ (TXP T M) ∧ (TCP T M) ∧ (OCe M M0))) : Ct B (d + 22) 152 [R 6, I p1] M0 (qI fun z M => Pw M ∧ Fr fm_n7152_6 M0 M ∧ 0 ≤ z ∧ z ≤ 1 ∧ 0 ≤ M 9 3 + (-1) * x9_3 ∧ 0 ≤ x9_1 + (-1) * (M 9 3) ∧ 0 ≤ x9_1 + (-1) * (M 9 2) ∧ 0 ≤ M 9 2 + (-1) * (M 9 3) ∧ 0 ≤ M 6 4 ∧ 0 ≤ M 6 5 + 1 ∧ (z = 1 → 0 ≤ M 6 4 + (-1) * x6_4) ∧ (z = 1 → 0 ≤ (-1) * (M 6 4) + x6_4) ∧ (z = 1 → 0 ≤ M 6 5 + (-1) * x6_5) ∧ (z = 1 → 0 ≤ (-1) * (M 6 5) + x6_5) ∧ ((z = 1 ∧ XN T x9_1 x6_3 c0 z0 (p1 + 1) (M 9 3) o w 4 (CLm M0) (CLm M) (11 - 2 * p1) x9_3) ∨ (z = 0 ∧ Rch T x9_1 x6_3 c0 (3, 0, M 6 5, M 6 4))) ∧ (TXP T M) ∧ (TCP T M) ∧ (OCe M M0)) := by
  refine ct_of (d := d + 21) (k := 2) (L := [some (R 6), some (I p1), none, none]) rfl rfl rfl ?_
  have hF0 := Fr.rf fm_n7152_6 M0
  generalize hQ : (qI fun z M => Pw M ∧ Fr fm_n7152_6 M0 M ∧ 0 ≤ z ∧ z ≤ 1 ∧ 0 ≤ M 9 3 + (-1) * x9_3 ∧ 0 ≤ x9_1 + (-1) * (M 9 3) ∧ 0 ≤ x9_1 + (-1) * (M 9 2) ∧ 0 ≤ M 9 2 + (-1) * (M 9 3) ∧ 0 ≤ M 6 4 ∧ 0 ≤ M 6 5 + 1 ∧ (z = 1 → 0 ≤ M 6 4 + (-1) * x6_4) ∧ (z = 1 → 0 ≤ (-1) * (M 6 4) + x6_4) ∧ (z = 1 → 0 ≤ M 6 5 + (-1) * x6_5) ∧ (z = 1 → 0 ≤ (-1) * (M 6 5) + x6_5) ∧ ((z = 1 ∧ XN T x9_1 x6_3 c0 z0 (p1 + 1) (M 9 3) o w 4 (CLm M0) (CLm M) (11 - 2 * p1) x9_3) ∨ (z = 0 ∧ Rch T x9_1 x6_3 c0 (3, 0, M 6 5, M 6 4))) ∧ (TXP T M) ∧ (TCP T M) ∧ (OCe M M0)) = Q
  have hCe : CLe M0 (CLm M0) := ⟨pcE hP0, rfl⟩
  have hOe : OCe M0 M0 := OCe_rf M0
  refine wk_al0 r152_0 (wk_cv1 r152_1 kc_6_165 rfl (n7165_6 _ M0 x9_1 x9_3 x9_2 x6_4 x6_5 x6_3 T hP0 ex9_1 (by first | with_reducible assumption | omega) (by first | with_reducible assumption | omega) ex9_3 (by first | with_reducible assumption | omega) (by first | with_reducible assumption | omega) ex9_2 (by first | with_reducible assumption | omega) (by first | with_reducible assumption | omega) ex6_4 (by first | with_reducible assumption | omega) (by first | with_reducible assumption | omega) ex6_5 (by first | with_reducible assumption | omega) (by first | with_reducible assumption | omega) ex6_3 (by first | with_reducible assumption | omega) (by first | with_reducible assumption | omega) (by omega) (by omega) (by omega) pp_TX pp_TC) (cqI ?_))
  rintro v14 M1 ⟨hP2, hQ3, h15, h16, h5, h6, h7, h8, h9, h10, xh11, pr12, pr13⟩
  have hF4 : Fr fm_n7152_6 M0 M1 := hF0.tr hQ3 rfl
  obtain ⟨v17, e18⟩ : ∃ v, M1 9 3 = v := ⟨_, rfl⟩
  have h19 := (bf_9_3 hP2).1; rw [e18] at h19
  have h20 := (bf_9_3 hP2).2; rw [e18] at h20
  obtain ⟨v21, e22⟩ : ∃ v, M1 9 2 = v := ⟨_, rfl⟩
  have h23 := (bf_9_2 hP2).1; rw [e22] at h23
  have h24 := (bf_9_2 hP2).2; rw [e22] at h24
  obtain ⟨v25, e26⟩ : ∃ v, M1 6 4 = v := ⟨_, rfl⟩
  have h27 := (bf_6_4 hP2).1; rw [e26] at h27
  have h28 := (bf_6_4 hP2).2; rw [e26] at h28
  obtain ⟨v29, e30⟩ : ∃ v, M1 6 5 = v := ⟨_, rfl⟩
  have h31 := (bf_6_5 hP2).1; rw [e30] at h31
  have h32 := (bf_6_5 hP2).2; rw [e30] at h32
  refine wk_is2 r152_4 rfl (wk_il2 r152_5 (wk_c1 r152_6 ?_))
  refine wk_icne r152_7 ⟨by omega, by omega⟩ (by decide) ?_ ?_
  · intro h33
    have r1 : RQ T x9_1 x6_3 (c0, z0) (stN T x9_1 x6_3 (p1 + 1) v17, emN T x9_1 v17 (T x9_3 - 97) (o, w)) := yN1 xp0 xp1 (by omega) (by omega)
    rw [show T x9_3 - 97 = v14 by omega] at r1
    have hpl : v14 ≤ 6 := by omega
    have hpp : v14 < x6_3 := by have := naE_lt (T := T) (n := x9_1) (pp := x6_3) (s := x9_3) (by omega); omega
    refine wk_al0 r152_12 (wk_c8 r152_13 (wk_cv2 r152_15 kc_6_175 rfl (n7175_6 _ M1 4111 x9_1 v17 v21 T hP2 (by decide) ((hQ3.at g_9_1 rfl).trans ex9_1) (by first | with_reducible assumption | omega) (by first | with_reducible assumption | omega) e18 (by first | with_reducible assumption | omega) (by first | with_reducible assumption | omega) e22 (by first | with_reducible assumption | omega) (by first | with_reducible assumption | omega) (by omega) (by omega) (by omega) (by first | assumption | omega | (unfold stepok; omega)) pr12 pr13) (cqI ?_)))
    rintro v46 M34 ⟨hP35, hQ36, h47, h48, h38, h39, h40, h41, h42, xh43, pr44, pr45⟩
    have hF37 : Fr fm_n7152_6 M0 M34 := hF4.tr hQ36 rfl
    obtain ⟨v49, e50⟩ : ∃ v, M34 9 3 = v := ⟨_, rfl⟩
    have h51 := (bf_9_3 hP35).1; rw [e50] at h51
    have h52 := (bf_9_3 hP35).2; rw [e50] at h52
    obtain ⟨v53, e54⟩ : ∃ v, M34 9 2 = v := ⟨_, rfl⟩
    have h55 := (bf_9_2 hP35).1; rw [e54] at h55
    have h56 := (bf_9_2 hP35).2; rw [e54] at h56
    rw [show wix 4111 = 15 from rfl] at xh43
    refine wk_ifeq r152_18 ⟨by omega, by omega⟩ ?_ ?_
    · intro h57
      clear h42
      obtain rfl : v17 = v49 := by omega
      obtain rfl : v21 = v53 := by omega
      refine wk_al0 r152_35 (wk_c8 r152_36 (wk_cv2 r152_38 kc_6_175 rfl (n7175_6 _ M34 4112 x9_1 v17 v21 T hP35 (by decide) ((hQ36.at g_9_1 rfl).trans ((hQ3.at g_9_1 rfl).trans ex9_1)) (by first | with_reducible assumption | omega) (by first | with_reducible assumption | omega) e50 (by first | with_reducible assumption | omega) (by first | with_reducible assumption | omega) e54 (by first | with_reducible assumption | omega) (by first | with_reducible assumption | omega) (by omega) (by omega) (by omega) (by first | assumption | omega | (unfold stepok; omega)) pr44 pr45) (cqI ?_)))
      rintro v70 M58 ⟨hP59, hQ60, h71, h72, h62, h63, h64, h65, h66, xh67, pr68, pr69⟩
      have hF61 : Fr fm_n7152_6 M0 M58 := hF37.tr hQ60 rfl
      obtain ⟨v73, e74⟩ : ∃ v, M58 9 3 = v := ⟨_, rfl⟩
      have h75 := (bf_9_3 hP59).1; rw [e74] at h75
      have h76 := (bf_9_3 hP59).2; rw [e74] at h76
      obtain ⟨v77, e78⟩ : ∃ v, M58 9 2 = v := ⟨_, rfl⟩
      have h79 := (bf_9_2 hP59).1; rw [e78] at h79
      have h80 := (bf_9_2 hP59).2; rw [e78] at h80
      rw [show wix 4112 = 16 from rfl] at xh67
      refine wk_ifeq r152_41 ⟨by omega, by omega⟩ ?_ ?_
      · intro h81
        clear h66
        obtain rfl : v17 = v73 := by omega
        obtain rfl : v21 = v77 := by omega
        refine wk_al0 r152_73 (wk_c8 r152_74 (wk_cv2 r152_76 kc_6_175 rfl (n7175_6 _ M58 4113 x9_1 v17 v21 T hP59 (by decide) ((hQ60.at g_9_1 rfl).trans ((hQ36.at g_9_1 rfl).trans ((hQ3.at g_9_1 rfl).trans ex9_1))) (by first | with_reducible assumption | omega) (by first | with_reducible assumption | omega) e74 (by first | with_reducible assumption | omega) (by first | with_reducible assumption | omega) e78 (by first | with_reducible assumption | omega) (by first | with_reducible assumption | omega) (by omega) (by omega) (by omega) (by first | assumption | omega | (unfold stepok; omega)) pr68 pr69) (cqI ?_)))
        rintro v94 M82 ⟨hP83, hQ84, h95, h96, h86, h87, h88, h89, h90, xh91, pr92, pr93⟩
        have hF85 : Fr fm_n7152_6 M0 M82 := hF61.tr hQ84 rfl
        obtain ⟨v97, e98⟩ : ∃ v, M82 9 3 = v := ⟨_, rfl⟩
        have h99 := (bf_9_3 hP83).1; rw [e98] at h99
        have h100 := (bf_9_3 hP83).2; rw [e98] at h100
        obtain ⟨v101, e102⟩ : ∃ v, M82 9 2 = v := ⟨_, rfl⟩
        have h103 := (bf_9_2 hP83).1; rw [e102] at h103
        have h104 := (bf_9_2 hP83).2; rw [e102] at h104
        rw [show wix 4113 = 17 from rfl] at xh91
        refine wk_ifne r152_79 ⟨by omega, by omega⟩ ?_ ?_
        · intro h105
          replace h90 := h90 (z1_of h95 h96 h105)
          refine wk_al0 r152_88 (wk_il1 r152_89 ?_)
          refine wk_cv2 r152_90 kc_6_168 rfl (n7168_6 _ M82 p1 x9_1 v97 v101 v25 v29 x6_3 T c0 z0 o w ((14 + 16 * (v14 + 1))) hP83 (by first | with_reducible assumption | omega) (by first | with_reducible assumption | omega) ((hQ84.at g_9_1 rfl).trans ((hQ60.at g_9_1 rfl).trans ((hQ36.at g_9_1 rfl).trans ((hQ3.at g_9_1 rfl).trans ex9_1)))) (by first | with_reducible assumption | omega) (by first | with_reducible assumption | omega) e98 (by first | with_reducible assumption | omega) (by first | with_reducible assumption | omega) e102 (by first | with_reducible assumption | omega) (by first | with_reducible assumption | omega) ((hQ84.at g_6_4 rfl).trans ((hQ60.at g_6_4 rfl).trans ((hQ36.at g_6_4 rfl).trans e26))) (by first | with_reducible assumption | omega) (by first | with_reducible assumption | omega) ((hQ84.at g_6_5 rfl).trans ((hQ60.at g_6_5 rfl).trans ((hQ36.at g_6_5 rfl).trans e30))) (by first | with_reducible assumption | omega) (by first | with_reducible assumption | omega) ((hQ84.at g_6_3 rfl).trans ((hQ60.at g_6_3 rfl).trans ((hQ36.at g_6_3 rfl).trans ((hQ3.at g_6_3 rfl).trans ex6_3)))) (by first | with_reducible assumption | omega) (by first | with_reducible assumption | omega) (by omega) (by omega) (by omega) (by omega) (PXx_s r1 (by omega) (by omega)) (by omega) (CLe_len (CLe_sm (Sm.fr hQ84 rfl) (CLe_sm (Sm.fr hQ60 rfl) (CLe_sm (Sm.fr hQ36 rfl) (CLe_sm (Sm.fr hQ3 rfl) hCe)))) (by omega)) pr92 pr93 (fun h1 d2 h2 => hX h1 d2 (by omega))) (cqI ?_)
          rintro v124 M106 ⟨hP107, hQ108, h125, h126, h110, h111, h112, h113, h114, h115, h116, h117, h118, h119, xh120, pr121, pr122, pr123⟩
          have hF109 : Fr fm_n7152_6 M0 M106 := hF85.tr hQ108 rfl
          have pr127 : OCe M106 M0 := OCe_tr pr123 (OCe_sm (Sm.fr hQ84 rfl) (OCe_sm (Sm.fr hQ60 rfl) (OCe_sm (Sm.fr hQ36 rfl) (OCe_sm (Sm.fr hQ3 rfl) hOe))))
          obtain ⟨v128, e129⟩ : ∃ v, M106 9 3 = v := ⟨_, rfl⟩
          have h130 := (bf_9_3 hP107).1; rw [e129] at h130
          have h131 := (bf_9_3 hP107).2; rw [e129] at h131
          obtain ⟨v132, e133⟩ : ∃ v, M106 9 2 = v := ⟨_, rfl⟩
          have h134 := (bf_9_2 hP107).1; rw [e133] at h134
          have h135 := (bf_9_2 hP107).2; rw [e133] at h135
          obtain ⟨v136, e137⟩ : ∃ v, M106 6 4 = v := ⟨_, rfl⟩
          have h138 := (bf_6_4 hP107).1; rw [e137] at h138
          have h139 := (bf_6_4 hP107).2; rw [e137] at h139
          obtain ⟨v140, e141⟩ : ∃ v, M106 6 5 = v := ⟨_, rfl⟩
          have h142 := (bf_6_5 hP107).1; rw [e141] at h142
          have h143 := (bf_6_5 hP107).2; rw [e141] at h143
          refine wk_ifne r152_93 ⟨by omega, by omega⟩ ?_ ?_
          · intro h144
            replace h116 := h116 (z1_of h125 h126 h144)
            replace h117 := h117 (z1_of h125 h126 h144)
            replace h118 := h118 (z1_of h125 h126 h144)
            replace h119 := h119 (z1_of h125 h126 h144)
            have r3 := or_l xh120 (by omega); rw [e129, ((CLe_sm (Sm.fr hQ84 rfl) (CLe_sm (Sm.fr hQ60 rfl) (CLe_sm (Sm.fr hQ36 rfl) (CLe_sm (Sm.fr hQ3 rfl) hCe))))).2] at r3
            have hlen := XP_len r3
            have pr145 : CLe M106 (CLm M106) := ⟨pcE hP107, rfl⟩
            refine wk_al0 r152_98 ?_
            obtain ⟨v146, e147⟩ : ∃ v, M106 6 2 = v := ⟨_, rfl⟩
            have hC148 : isC v146 := by have := pcE hP107; rw [e147] at this; exact this
            refine wk_getfr r152_99 fd_6_2 e147 (wk_il2 r152_102 (wk_cv2 r152_103 (kcC_139 hC148) rfl (n7139 _ M106 v146 v14 hP107 hC148 (by first | with_reducible assumption | omega) (by first | with_reducible assumption | omega)) (cqV ?_)))
            rintro M149 ⟨hP150, hQ151, xh153, xh154⟩
            have hF152 : Fr fm_n7152_6 M0 M149 := hF109.tr hQ151 rfl
            have pr155 : OCe M149 M0 := OCe_tr (OCe_ad (hQ151.at g_6_2 rfl) e147 xh153) pr127
            have pr156 : CLe M149 (CLm M106 ++ [4 + 8 * v14]) := CLe_add pr145 e147 ((hQ151.at g_6_2 rfl).trans e147) (by omega) xh154
            refine wk_c1 r152_106 ?_
            subst hQ; exact wk_zret r152_107 (by decide) (⟨rfl, _, rfl, hP150, hF152, by omega, by omega, by have := ((hQ151.at g_9_3 rfl).trans e129); omega, by have := ((hQ151.at g_9_3 rfl).trans e129); omega, by have := ((hQ151.at g_9_2 rfl).trans e133); omega, by have := ((hQ151.at g_9_2 rfl).trans e133); have := ((hQ151.at g_9_3 rfl).trans e129); omega, by have := ((hQ151.at g_6_4 rfl).trans e137); omega, by have := ((hQ151.at g_6_5 rfl).trans e141); omega, by have := ((hQ151.at g_6_4 rfl).trans e137); omega, by have := ((hQ151.at g_6_4 rfl).trans e137); omega, by have := ((hQ151.at g_6_5 rfl).trans e141); omega, by have := ((hQ151.at g_6_5 rfl).trans e141); omega, Or.inl ⟨by omega, by rw [((hQ151.at g_9_3 rfl).trans e129)]; exact XN_says r3 (pr156).2 rfl (by omega) hpl hpp (by have := kw_2 (T := T) (n := x9_1) (s := v17) (by omega); omega)⟩, (TXP_sm (Sm.fr hQ151 rfl) pr121), (TCP_sm (Sm.fr hQ151 rfl) pr122), pr155⟩)
          · intro h157
            clear h116 h117 h118 h119
            refine wk_c1 r152_96 ?_
            subst hQ; exact wk_zret r152_97 (by decide) (⟨rfl, _, rfl, hP107, hF109, by omega, by omega, by have := e129; omega, by have := e129; omega, by have := e133; omega, by have := e133; have := e129; omega, by have := e137; omega, by have := e141; omega, by omega, by omega, by omega, by omega, Or.inr ⟨by omega, by rw [e141, e137]; exact F_k (or_r xh120 (by omega)) (by omega) (by omega)⟩, pr121, pr122, pr127⟩)
        · intro h158
          clear h90
          obtain rfl : v17 = v97 := by omega
          obtain rfl : v21 = v101 := by omega
          refine wk_al0 r152_82 (wk_c1 r152_83 (wk_cv2 r152_84 kc_6_159 rfl (n7159_6 _ M82 1 v17 hP83 (by decide) (by decide) e98 (by first | with_reducible assumption | omega) (by first | with_reducible assumption | omega)) (cqI ?_)))
          rintro v167 M159 ⟨hP160, hQ161, h168, h169, h163, h164, h165, h166⟩
          have hF162 : Fr fm_n7152_6 M0 M159 := hF85.tr hQ161 rfl
          obtain ⟨v170, e171⟩ : ∃ v, M159 6 4 = v := ⟨_, rfl⟩
          have h172 := (bf_6_4 hP160).1; rw [e171] at h172
          have h173 := (bf_6_4 hP160).2; rw [e171] at h173
          obtain ⟨v174, e175⟩ : ∃ v, M159 6 5 = v := ⟨_, rfl⟩
          have h176 := (bf_6_5 hP160).1; rw [e175] at h176
          have h177 := (bf_6_5 hP160).2; rw [e175] at h177
          subst hQ; exact wk_zret r152_87 ⟨by omega, by omega⟩ (⟨rfl, _, rfl, hP160, hF162, by omega, by omega, by have := ((hQ161.at g_9_3 rfl).trans e98); omega, by have := ((hQ161.at g_9_3 rfl).trans e98); omega, by have := ((hQ161.at g_9_2 rfl).trans e102); omega, by have := ((hQ161.at g_9_2 rfl).trans e102); have := ((hQ161.at g_9_3 rfl).trans e98); omega, by have := e171; omega, by have := e175; omega, by omega, by omega, by omega, by omega, Or.inr ⟨by omega, by rw [e175, e171]; exact N_n r1.r (by omega) (by omega) (by omega) (by omega) (by omega)⟩, (TXP_sm (Sm.fr hQ161 rfl) pr92), (TCP_sm (Sm.fr hQ161 rfl) pr93), (OCe_sm (Sm.fr hQ161 rfl) (OCe_sm (Sm.fr hQ84 rfl) (OCe_sm (Sm.fr hQ60 rfl) (OCe_sm (Sm.fr hQ36 rfl) (OCe_sm (Sm.fr hQ3 rfl) hOe)))))⟩)
      · intro h178
        replace h66 := h66 (z1_of h71 h72 h178)
        refine wk_al0 r152_44 (wk_cv1 r152_45 kc_6_165 rfl (n7165_6 _ M58 x9_1 v73 v77 v25 v29 x6_3 T hP59 ((hQ60.at g_9_1 rfl).trans ((hQ36.at g_9_1 rfl).trans ((hQ3.at g_9_1 rfl).trans ex9_1))) (by first | with_reducible assumption | omega) (by first | with_reducible assumption | omega) e74 (by first | with_reducible assumption | omega) (by first | with_reducible assumption | omega) e78 (by first | with_reducible assumption | omega) (by first | with_reducible assumption | omega) ((hQ60.at g_6_4 rfl).trans ((hQ36.at g_6_4 rfl).trans e26)) (by first | with_reducible assumption | omega) (by first | with_reducible assumption | omega) ((hQ60.at g_6_5 rfl).trans ((hQ36.at g_6_5 rfl).trans e30)) (by first | with_reducible assumption | omega) (by first | with_reducible assumption | omega) ((hQ60.at g_6_3 rfl).trans ((hQ36.at g_6_3 rfl).trans ((hQ3.at g_6_3 rfl).trans ex6_3))) (by first | with_reducible assumption | omega) (by first | with_reducible assumption | omega) (by omega) (by omega) (by omega) pr68 pr69) (cqI ?_))
        rintro v192 M179 ⟨hP180, hQ181, h193, h194, h183, h184, h185, h186, h187, h188, xh189, pr190, pr191⟩
        have hF182 : Fr fm_n7152_6 M0 M179 := hF61.tr hQ181 rfl
        obtain ⟨v195, e196⟩ : ∃ v, M179 9 3 = v := ⟨_, rfl⟩
        have h197 := (bf_9_3 hP180).1; rw [e196] at h197
        have h198 := (bf_9_3 hP180).2; rw [e196] at h198
        obtain ⟨v199, e200⟩ : ∃ v, M179 9 2 = v := ⟨_, rfl⟩
        have h201 := (bf_9_2 hP180).1; rw [e200] at h201
        have h202 := (bf_9_2 hP180).2; rw [e200] at h202
        obtain ⟨v203, e204⟩ : ∃ v, M179 6 4 = v := ⟨_, rfl⟩
        have h205 := (bf_6_4 hP180).1; rw [e204] at h205
        have h206 := (bf_6_4 hP180).2; rw [e204] at h206
        obtain ⟨v207, e208⟩ : ∃ v, M179 6 5 = v := ⟨_, rfl⟩
        have h209 := (bf_6_5 hP180).1; rw [e208] at h209
        have h210 := (bf_6_5 hP180).2; rw [e208] at h210
        refine wk_is3 r152_48 rfl (wk_il3 r152_49 (wk_c1 r152_50 ?_))
        refine wk_iceq r152_51 ⟨by omega, by omega⟩ (by decide) ?_ ?_
        · intro h211
          refine wk_c1 r152_71 ?_
          subst hQ; exact wk_zret r152_72 (by decide) (⟨rfl, _, rfl, hP180, hF182, by omega, by omega, by have := e196; omega, by have := e196; omega, by have := e200; omega, by have := e200; have := e196; omega, by have := e204; omega, by have := e208; omega, by omega, by omega, by omega, by omega, Or.inr ⟨by omega, by rw [e208, e204]; exact N_an (v2 := v73) r1.r (by omega) (by omega) (by omega) (by omega) (by omega)⟩, pr190, pr191, (OCe_sm (Sm.fr hQ181 rfl) (OCe_sm (Sm.fr hQ60 rfl) (OCe_sm (Sm.fr hQ36 rfl) (OCe_sm (Sm.fr hQ3 rfl) hOe))))⟩)
        · intro h212
          refine wk_al0 r152_54 (wk_c1 r152_55 (wk_il2 r152_56 (wk_c1 r152_57 (wk_ishlc r152_58 (by decide) pwl_3 (wk_il3 r152_59 (wk_iord2 3 8 r152_60 (by decide) ⟨by omega, by omega⟩ ⟨by omega, by omega, by omega⟩ ?_))))))
          refine wk_cv3 r152_61 kc_6_172 rfl (n7172_6 _ M179 5 ((v14 * 8) + v192) hP180 (by decide) (by decide) (by first | with_reducible assumption | omega) (by first | with_reducible assumption | omega) (by first | assumption | omega | (unfold stepok; omega))) (cqI ?_)
          rintro v219 M213 ⟨hP214, hQ215, h220, h221, xh217, pr218⟩
          have hF216 : Fr fm_n7152_6 M0 M213 := hF182.tr hQ215 rfl
          have pr222 : OCe M213 M0 := OCe_tr pr218 (OCe_sm (Sm.fr hQ181 rfl) (OCe_sm (Sm.fr hQ60 rfl) (OCe_sm (Sm.fr hQ36 rfl) (OCe_sm (Sm.fr hQ3 rfl) hOe))))
          have pr223 : CLe M213 (CLm M0 ++ [5 + 8 * ((v14 * 8) + v192)]) := xh217 _ (CLe_sm (Sm.fr hQ181 rfl) (CLe_sm (Sm.fr hQ60 rfl) (CLe_sm (Sm.fr hQ36 rfl) (CLe_sm (Sm.fr hQ3 rfl) hCe)))) (by omega)
          refine wk_ifeq r152_64 ⟨by omega, by omega⟩ ?_ ?_
          · intro h224
            exfalso
            omega
          · intro h225
            refine wk_c1 r152_67 (wk_goto r152_68 ?_)
            subst hQ; exact wk_zret r152_72 (by decide) (⟨rfl, _, rfl, hP214, hF216, by omega, by omega, by have := ((hQ215.at g_9_3 rfl).trans e196); omega, by have := ((hQ215.at g_9_3 rfl).trans e196); omega, by have := ((hQ215.at g_9_2 rfl).trans e200); omega, by have := ((hQ215.at g_9_2 rfl).trans e200); have := ((hQ215.at g_9_3 rfl).trans e196); omega, by have := ((hQ215.at g_6_4 rfl).trans e204); omega, by have := ((hQ215.at g_6_5 rfl).trans e208); omega, by have := ((hQ215.at g_6_4 rfl).trans e204); omega, by have := ((hQ215.at g_6_4 rfl).trans e204); omega, by have := ((hQ215.at g_6_5 rfl).trans e208); omega, by have := ((hQ215.at g_6_5 rfl).trans e208); omega, Or.inl ⟨by omega, by rw [((hQ215.at g_9_3 rfl).trans e196)]; exact XN_as (v2 := v73) (k := v192) r1 (by omega) (by omega) (by omega) (by omega) (by omega) (by omega) (by omega) (pr223).2 (by omega) (by omega) hpl hpp (by have := naE_lt (T := T) (n := x9_1) (pp := x6_3) (s := v73) (by omega); omega) (by omega) (by have := kw_2 (T := T) (n := x9_1) (s := v17) (by omega); omega)⟩, (TXP_sm (Sm.fr hQ215 rfl) pr190), (TCP_sm (Sm.fr hQ215 rfl) pr191), pr222⟩)
    · intro h226
      replace h42 := h42 (z1_of h47 h48 h226)
      refine wk_al0 r152_21 (wk_c1 r152_22 (wk_il2 r152_23 (wk_c1 r152_24 (wk_imul r152_25 (wk_iadd r152_26 (wk_al0 r152_27 (wk_cv1 r152_28 kc_6_173 rfl (n7173_6 _ M34 x9_1 v49 v53 v25 v29 T hP35 ((hQ36.at g_9_1 rfl).trans ((hQ3.at g_9_1 rfl).trans ex9_1)) (by first | with_reducible assumption | omega) (by first | with_reducible assumption | omega) e50 (by first | with_reducible assumption | omega) (by first | with_reducible assumption | omega) e54 (by first | with_reducible assumption | omega) (by first | with_reducible assumption | omega) ((hQ36.at g_6_4 rfl).trans e26) (by first | with_reducible assumption | omega) (by first | with_reducible assumption | omega) ((hQ36.at g_6_5 rfl).trans e30) (by first | with_reducible assumption | omega) (by first | with_reducible assumption | omega) (by omega) (by omega) (by omega) pr44 pr45) (cqI ?_))))))))
      rintro v240 M227 ⟨hP228, hQ229, h241, h242, h231, h232, h233, h234, h235, h236, xh237, pr238, pr239⟩
      have hF230 : Fr fm_n7152_6 M0 M227 := hF37.tr hQ229 rfl
      obtain ⟨v243, e244⟩ : ∃ v, M227 9 3 = v := ⟨_, rfl⟩
      have h245 := (bf_9_3 hP228).1; rw [e244] at h245
      have h246 := (bf_9_3 hP228).2; rw [e244] at h246
      obtain ⟨v247, e248⟩ : ∃ v, M227 9 2 = v := ⟨_, rfl⟩
      have h249 := (bf_9_2 hP228).1; rw [e248] at h249
      have h250 := (bf_9_2 hP228).2; rw [e248] at h250
      obtain ⟨v251, e252⟩ : ∃ v, M227 6 4 = v := ⟨_, rfl⟩
      have h253 := (bf_6_4 hP228).1; rw [e252] at h253
      have h254 := (bf_6_4 hP228).2; rw [e252] at h254
      obtain ⟨v255, e256⟩ : ∃ v, M227 6 5 = v := ⟨_, rfl⟩
      have h257 := (bf_6_5 hP228).1; rw [e256] at h257
      have h258 := (bf_6_5 hP228).2; rw [e256] at h258
      refine wk_cv3 r152_31 kc_6_171 rfl (n7171_6v3 _ M227 (0 + (v14 * 5)) v240 hP228 (by first | with_reducible assumption | omega) (by first | with_reducible assumption | omega) (by first | with_reducible assumption | omega) (by first | with_reducible assumption | omega)) (cqI ?_)
      rintro v265 M259 ⟨hP260, hQ261, h266, h267, xh263, pr264⟩
      have hF262 : Fr fm_n7152_6 M0 M259 := hF230.tr hQ261 rfl
      have pr268 : OCe M259 M0 := OCe_tr pr264 (OCe_sm (Sm.fr hQ229 rfl) (OCe_sm (Sm.fr hQ36 rfl) (OCe_sm (Sm.fr hQ3 rfl) hOe)))
      subst hQ; exact wk_zret r152_34 ⟨by omega, by omega⟩ (⟨rfl, _, rfl, hP260, hF262, by omega, by omega, by have := ((hQ261.at g_9_3 rfl).trans e244); omega, by have := ((hQ261.at g_9_3 rfl).trans e244); omega, by have := ((hQ261.at g_9_2 rfl).trans e248); omega, by have := ((hQ261.at g_9_2 rfl).trans e248); have := ((hQ261.at g_9_3 rfl).trans e244); omega, by have := ((hQ261.at g_6_4 rfl).trans e252); omega, by have := ((hQ261.at g_6_5 rfl).trans e256); omega, by have := ((hQ261.at g_6_4 rfl).trans e252); omega, by have := ((hQ261.at g_6_4 rfl).trans e252); omega, by have := ((hQ261.at g_6_5 rfl).trans e256); omega, by have := ((hQ261.at g_6_5 rfl).trans e256); omega, by rcases (show v265 = 1 ∨ v265 = 0 by omega) with q9 | q9; (exact Or.inl ⟨q9, by rw [((hQ261.at g_9_3 rfl).trans e244)]; exact XN_kind (v2 := v49) (k := v240) r1 (by omega) (by omega) (by omega) (by omega) (by omega) (((xh263).resolve_right (fun q8 => by omega)).2.2 _ (CLe_sm (Sm.fr hQ229 rfl) (CLe_sm (Sm.fr hQ36 rfl) (CLe_sm (Sm.fr hQ3 rfl) hCe))) (by omega)).2 (by omega) (by omega) hpl hpp (by omega) (by have := kw_2 (T := T) (n := x9_1) (s := v17) (by omega); omega)⟩); (exact Or.inr ⟨q9, by rw [((hQ261.at g_6_5 rfl).trans e256), ((hQ261.at g_6_4 rfl).trans e252)]; exact N_in (v2 := v49) r1.r (by omega) (by omega) (by omega) (by omega) (by omega)⟩), (TXP_sm (Sm.fr hQ261 rfl) pr238), (TCP_sm (Sm.fr hQ261 rfl) pr239), pr268⟩)
  · intro h269
    refine wk_c1 r152_10 ?_
    subst hQ; exact wk_zret r152_11 (by decide) (⟨rfl, _, rfl, hP2, hF4, by omega, by omega, by have := e18; omega, by have := e18; omega, by have := e22; omega, by have := e22; have := e18; omega, by have := e26; omega, by have := e30; omega, by omega, by omega, by omega, by omega, Or.inr ⟨by omega, by rw [e30, e26]; exact N0 xp0.r xp1 (by omega) (by omega) (by omega)⟩, pr12, pr13, (OCe_sm (Sm.fr hQ3 rfl) hOe)⟩)
def fm_n7153_6 : Nat := 3941070043873280
set_option maxHeartbeats 20000000 in
/-- IslandHall$Parser.atom -/
theorem n7153_6 {B : eB} (d : Nat) (M0 : Mm) (p1 : Int) (x9_1 : Int) (x9_3 : Int) (x9_2 : Int) (x6_4 : Int) (x6_5 : Int) (x6_3 : Int) (T : Int → Int) (c0 : Cg) (z0 : Og) (o : List Int) (w : List Int) (gk : Int) (hP0 : Pw M0) (l1 : 0 ≤ p1) (u1 : p1 ≤ 5) (ex9_1 : M0 9 1 = x9_1) (lx9_1 : 0 ≤ x9_1) (ux9_1 : x9_1 ≤ 500) (ex9_3 : M0 9 3 = x9_3) (lx9_3 : 0 ≤ x9_3) (ux9_3 : x9_3 ≤ 500) (ex9_2 : M0 9 2 = x9_2) (lx9_2 : 0 ≤ x9_2) (ux9_2 : x9_2 ≤ 500) (ex6_4 : M0 6 4 = x6_4) (lx6_4 : 0 ≤ x6_4) (ux6_4 : x6_4 ≤ 6) (ex6_5 : M0 6 5 = x6_5) (lx6_5 : (-1) ≤ x6_5) (ux6_5 : x6_5 ≤ 500) (ex6_3 : M0 6 3 = x6_3) (lx6_3 : (-1) ≤ x6_3) (ux6_3 : x6_3 ≤ 7) (rp0 : 0 ≤ x9_1 + (-1) * x9_2) (rp1 : 0 ≤ x9_2 + (-1) * x9_3) (rp2 : 0 ≤ x9_1 + (-1) * x9_3) (rp3 : 0 ≤ (-1) * x6_3 + 7) (xp0 : RQ T x9_1 x6_3 (c0, z0) ((1, p1 + 1, x9_3, gk), (o, w))) (xp1 : kw T x9_1 x9_3 ≠ 14) (xp2 : sgI T x9_1 x9_3 40 ≠ 1) (xp3 : 2 * ((CLm M0).length : Int) ≤ x9_3 + 2) (pp_TX : TXP T M0) (pp_TC : TCP T M0) (hX : p1 ≤ 5 → ∀ d2 : Nat, d ≤ d2 → ∀ (M0 : Mm) (x9_1 : Int) (x9_3 : Int) (x9_2 : Int) (x6_4 : Int) (x6_5 : Int) (x6_3 : Int) (T : Int → Int) (c0 : Cg) (z0 : Og) (o : List Int) (w : List Int) (hP0 : Pw M0) (ex9_1 : M0 9 1 = x9_1) (lx9_1 : 0 ≤ x9_1) (ux9_1 : x9_1 ≤ 500) (ex9_3 : M0 9 3 = x9_3) (lx9_3 : 0 ≤ x9_3) (ux9_3 : x9_3 ≤ 500) (ex9_2 : M0 9 2 = x9_2) (lx9_2 : 0 ≤ x9_2) (ux9_2 : x9_2 ≤ 500) (ex6_4 : M0 6 4 = x6_4) (lx6_4 : 0 ≤ x6_4) (ux6_4 : x6_4 ≤ 6) (ex6_5 : M0 6 5 = x6_5) (lx6_5 : (-1) ≤ x6_5) (ux6_5 : x6_5 ≤ 500) (ex6_3 : M0 6 3 = x6_3) (lx6_3 : (-1) ≤ x6_3) (ux6_3 : x6_3 ≤ 7) (rp0 : 0 ≤ x9_1 + (-1) * x9_2) (rp1 : 0 ≤ x9_2 + (-1) * x9_3) (rp2 : 0 ≤ x9_1 + (-1) * x9_3) (rp3 : 0 ≤ (-1) * x6_3 + 7) (xp0 : RQ T x9_1 x6_3 (c0, z0) ((0, (p1 + 1), x9_3, 0), (o, w))) (xp1 : fix 1 w) (xp2 : 2 * ((CLm M0).length : Int) ≤ x9_3 + 2) (pp_TX : TXP T M0) (pp_TC : TCP T M0), Ct B (d2 + 20) 158 [R 6, I (p1 + 1)] M0 (qI fun z M => Pw M ∧ Fr fm_n7158_6E M0 M ∧ 0 ≤ z ∧ z ≤ 1 ∧ 0 ≤ M 9 3 + (-1) * x9_3 ∧ 0 ≤ x9_1 + (-1) * (M 9 3) ∧ 0 ≤ x9_1 + (-1) * (M 9 2) ∧ 0 ≤ M 9 2 + (-1) * (M 9 3) ∧ 0 ≤ M 6 4 ∧ 0 ≤ M 6 5 + 1 ∧ (z = 1 → 0 ≤ M 6 4 + (-1) * x6_4) ∧ (z = 1 → 0 ≤ (-1) * (M 6 4) + x6_4) ∧ (z = 1 → 0 ≤ M 6 5 + (-1) * x6_5) ∧ (z = 1 → 0 ≤ (-1) * (M 6 5) + x6_5) ∧ ((z = 1 ∧ XN T x9_1 x6_3 c0 z0 ((p1 + 1) + 1) (M 9 3) o w 1 (CLm M0) (CLm M) (13 - 2 * (p1 + 1)) x9_3 ∧ kw T x9_1 (M 9 3) ≠ 12 ∧ kw T x9_1 (M 9 3) ≠ 13) ∨ (z = 0 ∧ Rch T x9_1 x6_3 c0 (3, 0, M 6 5, M 6 4))) ∧ (TXP T M) ∧ (TCP T M) ∧ (OCe M M0))) : Ct B (d + 23) 153 [R 6, I p1] M0 (qI fun z M => Pw M ∧ Fr fm_n7153_6 M0 M ∧ 0 ≤ z ∧ z ≤ 1 ∧ 0 ≤ M 9 3 + (-1) * x9_3 ∧ 0 ≤ x9_1 + (-1) * (M 9 3) ∧ 0 ≤ x9_1 + (-1) * (M 9 2) ∧ 0 ≤ M 9 2 + (-1) * (M 9 3) ∧ 0 ≤ M 6 4 ∧ 0 ≤ M 6 5 + 1 ∧ (z = 1 → 0 ≤ M 6 4 + (-1) * x6_4) ∧ (z = 1 → 0 ≤ (-1) * (M 6 4) + x6_4) ∧ (z = 1 → 0 ≤ M 6 5 + (-1) * x6_5) ∧ (z = 1 → 0 ≤ (-1) * (M 6 5) + x6_5) ∧ ((z = 1 ∧ XN T x9_1 x6_3 c0 z0 (p1 + 1) (M 9 3) o w 4 (CLm M0) (CLm M) (11 - 2 * p1) x9_3) ∨ (z = 0 ∧ Rch T x9_1 x6_3 c0 (3, 0, M 6 5, M 6 4))) ∧ (TXP T M) ∧ (TCP T M) ∧ (OCe M M0)) := by
  refine ct_of (d := d + 22) (k := 0) (L := [some (R 6), some (I p1)]) rfl rfl rfl ?_
  have hF0 := Fr.rf fm_n7153_6 M0
  generalize hQ : (qI fun z M => Pw M ∧ Fr fm_n7153_6 M0 M ∧ 0 ≤ z ∧ z ≤ 1 ∧ 0 ≤ M 9 3 + (-1) * x9_3 ∧ 0 ≤ x9_1 + (-1) * (M 9 3) ∧ 0 ≤ x9_1 + (-1) * (M 9 2) ∧ 0 ≤ M 9 2 + (-1) * (M 9 3) ∧ 0 ≤ M 6 4 ∧ 0 ≤ M 6 5 + 1 ∧ (z = 1 → 0 ≤ M 6 4 + (-1) * x6_4) ∧ (z = 1 → 0 ≤ (-1) * (M 6 4) + x6_4) ∧ (z = 1 → 0 ≤ M 6 5 + (-1) * x6_5) ∧ (z = 1 → 0 ≤ (-1) * (M 6 5) + x6_5) ∧ ((z = 1 ∧ XN T x9_1 x6_3 c0 z0 (p1 + 1) (M 9 3) o w 4 (CLm M0) (CLm M) (11 - 2 * p1) x9_3) ∨ (z = 0 ∧ Rch T x9_1 x6_3 c0 (3, 0, M 6 5, M 6 4))) ∧ (TXP T M) ∧ (TCP T M) ∧ (OCe M M0)) = Q
  have hCe : CLe M0 (CLm M0) := ⟨pcE hP0, rfl⟩
  have hOe : OCe M0 M0 := OCe_rf M0
  refine wk_al0 r153_0 (wk_getfr r153_1 fd_6_0 (br_6_0 hP0) (wk_cv1 r153_4 kc_9_237 rfl (n7237_9 _ M0 x9_1 x9_3 T hP0 ex9_1 (by first | with_reducible assumption | omega) (by first | with_reducible assumption | omega) ex9_3 (by first | with_reducible assumption | omega) (by first | with_reducible assumption | omega) pp_TX pp_TC) (cqI ?_)))
  rintro v6 M1 ⟨hP2, hQ3, h7, h8, xh5⟩
  obtain rfl := Fr.same hQ3
  refine wk_ifeq r153_7 ⟨by omega, by omega⟩ ?_ ?_
  · intro h9
    refine wk_al0 r153_16 (wk_c8 r153_17 (wk_cv2 r153_19 kc_6_175 rfl (n7175_6 _ M0 4114 x9_1 x9_3 x9_2 T hP0 (by decide) ex9_1 (by first | with_reducible assumption | omega) (by first | with_reducible assumption | omega) ex9_3 (by first | with_reducible assumption | omega) (by first | with_reducible assumption | omega) ex9_2 (by first | with_reducible assumption | omega) (by first | with_reducible assumption | omega) (by omega) (by omega) (by omega) (by first | assumption | omega | (unfold stepok; omega)) pp_TX pp_TC) (cqI ?_)))
    rintro v22 M10 ⟨hP11, hQ12, h23, h24, h14, h15, h16, h17, h18, xh19, pr20, pr21⟩
    have hF13 : Fr fm_n7153_6 M0 M10 := hF0.tr hQ12 rfl
    obtain ⟨v25, e26⟩ : ∃ v, M10 9 3 = v := ⟨_, rfl⟩
    have h27 := (bf_9_3 hP11).1; rw [e26] at h27
    have h28 := (bf_9_3 hP11).2; rw [e26] at h28
    obtain ⟨v29, e30⟩ : ∃ v, M10 9 2 = v := ⟨_, rfl⟩
    have h31 := (bf_9_2 hP11).1; rw [e30] at h31
    have h32 := (bf_9_2 hP11).2; rw [e30] at h32
    rw [show wix 4114 = 18 from rfl] at xh19
    refine wk_ifeq r153_22 ⟨by omega, by omega⟩ ?_ ?_
    · intro h33
      clear h18
      obtain rfl : x9_3 = v25 := by omega
      obtain rfl : x9_2 = v29 := by omega
      refine wk_al0 r153_38 (wk_c8 r153_39 (wk_cv2 r153_41 kc_6_175 rfl (n7175_6 _ M10 4115 x9_1 x9_3 x9_2 T hP11 (by decide) ((hQ12.at g_9_1 rfl).trans ex9_1) (by first | with_reducible assumption | omega) (by first | with_reducible assumption | omega) e26 (by first | with_reducible assumption | omega) (by first | with_reducible assumption | omega) e30 (by first | with_reducible assumption | omega) (by first | with_reducible assumption | omega) (by omega) (by omega) (by omega) (by first | assumption | omega | (unfold stepok; omega)) pr20 pr21) (cqI ?_)))
      rintro v46 M34 ⟨hP35, hQ36, h47, h48, h38, h39, h40, h41, h42, xh43, pr44, pr45⟩
      have hF37 : Fr fm_n7153_6 M0 M34 := hF13.tr hQ36 rfl
      obtain ⟨v49, e50⟩ : ∃ v, M34 9 3 = v := ⟨_, rfl⟩
      have h51 := (bf_9_3 hP35).1; rw [e50] at h51
      have h52 := (bf_9_3 hP35).2; rw [e50] at h52
      obtain ⟨v53, e54⟩ : ∃ v, M34 9 2 = v := ⟨_, rfl⟩
      have h55 := (bf_9_2 hP35).1; rw [e54] at h55
      have h56 := (bf_9_2 hP35).2; rw [e54] at h56
      rw [show wix 4115 = 8 from rfl] at xh43
      refine wk_ifeq r153_44 ⟨by omega, by omega⟩ ?_ ?_
      · intro h57
        clear h42
        obtain rfl : x9_3 = v49 := by omega
        obtain rfl : x9_2 = v53 := by omega
        refine wk_al0 r153_61 (wk_c8 r153_62 (wk_cv2 r153_64 kc_6_175 rfl (n7175_6 _ M34 4116 x9_1 x9_3 x9_2 T hP35 (by decide) ((hQ36.at g_9_1 rfl).trans ((hQ12.at g_9_1 rfl).trans ex9_1)) (by first | with_reducible assumption | omega) (by first | with_reducible assumption | omega) e50 (by first | with_reducible assumption | omega) (by first | with_reducible assumption | omega) e54 (by first | with_reducible assumption | omega) (by first | with_reducible assumption | omega) (by omega) (by omega) (by omega) (by first | assumption | omega | (unfold stepok; omega)) pr44 pr45) (cqI ?_)))
        rintro v70 M58 ⟨hP59, hQ60, h71, h72, h62, h63, h64, h65, h66, xh67, pr68, pr69⟩
        have hF61 : Fr fm_n7153_6 M0 M58 := hF37.tr hQ60 rfl
        obtain ⟨v73, e74⟩ : ∃ v, M58 9 3 = v := ⟨_, rfl⟩
        have h75 := (bf_9_3 hP59).1; rw [e74] at h75
        have h76 := (bf_9_3 hP59).2; rw [e74] at h76
        obtain ⟨v77, e78⟩ : ∃ v, M58 9 2 = v := ⟨_, rfl⟩
        have h79 := (bf_9_2 hP59).1; rw [e78] at h79
        have h80 := (bf_9_2 hP59).2; rw [e78] at h80
        rw [show wix 4116 = 20 from rfl] at xh67
        refine wk_ifeq r153_67 ⟨by omega, by omega⟩ ?_ ?_
        · intro h81
          clear h66
          obtain rfl : x9_3 = v73 := by omega
          obtain rfl : x9_2 = v77 := by omega
          refine wk_al0 r153_83 (wk_c8 r153_84 (wk_cv2 r153_86 kc_6_175 rfl (n7175_6 _ M58 4117 x9_1 x9_3 x9_2 T hP59 (by decide) ((hQ60.at g_9_1 rfl).trans ((hQ36.at g_9_1 rfl).trans ((hQ12.at g_9_1 rfl).trans ex9_1))) (by first | with_reducible assumption | omega) (by first | with_reducible assumption | omega) e74 (by first | with_reducible assumption | omega) (by first | with_reducible assumption | omega) e78 (by first | with_reducible assumption | omega) (by first | with_reducible assumption | omega) (by omega) (by omega) (by omega) (by first | assumption | omega | (unfold stepok; omega)) pr68 pr69) (cqI ?_)))
          rintro v94 M82 ⟨hP83, hQ84, h95, h96, h86, h87, h88, h89, h90, xh91, pr92, pr93⟩
          have hF85 : Fr fm_n7153_6 M0 M82 := hF61.tr hQ84 rfl
          obtain ⟨v97, e98⟩ : ∃ v, M82 9 3 = v := ⟨_, rfl⟩
          have h99 := (bf_9_3 hP83).1; rw [e98] at h99
          have h100 := (bf_9_3 hP83).2; rw [e98] at h100
          obtain ⟨v101, e102⟩ : ∃ v, M82 9 2 = v := ⟨_, rfl⟩
          have h103 := (bf_9_2 hP83).1; rw [e102] at h103
          have h104 := (bf_9_2 hP83).2; rw [e102] at h104
          rw [show wix 4117 = 21 from rfl] at xh91
          refine wk_ifeq r153_89 ⟨by omega, by omega⟩ ?_ ?_
          · intro h105
            clear h90
            obtain rfl : x9_3 = v97 := by omega
            obtain rfl : x9_2 = v101 := by omega
            refine wk_al0 r153_97 (wk_c8 r153_98 (wk_cv2 r153_100 kc_6_175 rfl (n7175_6 _ M82 4118 x9_1 x9_3 x9_2 T hP83 (by decide) ((hQ84.at g_9_1 rfl).trans ((hQ60.at g_9_1 rfl).trans ((hQ36.at g_9_1 rfl).trans ((hQ12.at g_9_1 rfl).trans ex9_1)))) (by first | with_reducible assumption | omega) (by first | with_reducible assumption | omega) e98 (by first | with_reducible assumption | omega) (by first | with_reducible assumption | omega) e102 (by first | with_reducible assumption | omega) (by first | with_reducible assumption | omega) (by omega) (by omega) (by omega) (by first | assumption | omega | (unfold stepok; omega)) pr92 pr93) (cqI ?_)))
            rintro v118 M106 ⟨hP107, hQ108, h119, h120, h110, h111, h112, h113, h114, xh115, pr116, pr117⟩
            have hF109 : Fr fm_n7153_6 M0 M106 := hF85.tr hQ108 rfl
            obtain ⟨v121, e122⟩ : ∃ v, M106 9 3 = v := ⟨_, rfl⟩
            have h123 := (bf_9_3 hP107).1; rw [e122] at h123
            have h124 := (bf_9_3 hP107).2; rw [e122] at h124
            obtain ⟨v125, e126⟩ : ∃ v, M106 9 2 = v := ⟨_, rfl⟩
            have h127 := (bf_9_2 hP107).1; rw [e126] at h127
            have h128 := (bf_9_2 hP107).2; rw [e126] at h128
            rw [show wix 4118 = 19 from rfl] at xh115
            refine wk_ifeq r153_103 ⟨by omega, by omega⟩ ?_ ?_
            · intro h129
              clear h114
              obtain rfl : x9_3 = v121 := by omega
              obtain rfl : x9_2 = v125 := by omega
              refine wk_al0 r153_117 (wk_c1 r153_118 (wk_cv2 r153_119 kc_6_159 rfl (n7159_6 _ M106 1 x9_3 hP107 (by decide) (by decide) e122 (by first | with_reducible assumption | omega) (by first | with_reducible assumption | omega)) (cqI ?_)))
              rintro v138 M130 ⟨hP131, hQ132, h139, h140, h134, h135, h136, h137⟩
              have hF133 : Fr fm_n7153_6 M0 M130 := hF109.tr hQ132 rfl
              obtain ⟨v141, e142⟩ : ∃ v, M130 6 4 = v := ⟨_, rfl⟩
              have h143 := (bf_6_4 hP131).1; rw [e142] at h143
              have h144 := (bf_6_4 hP131).2; rw [e142] at h144
              obtain ⟨v145, e146⟩ : ∃ v, M130 6 5 = v := ⟨_, rfl⟩
              have h147 := (bf_6_5 hP131).1; rw [e146] at h147
              have h148 := (bf_6_5 hP131).2; rw [e146] at h148
              subst hQ; exact wk_zret r153_122 ⟨by omega, by omega⟩ (⟨rfl, _, rfl, hP131, hF133, by omega, by omega, by have := ((hQ132.at g_9_3 rfl).trans e122); omega, by have := ((hQ132.at g_9_3 rfl).trans e122); omega, by have := ((hQ132.at g_9_2 rfl).trans e126); omega, by have := ((hQ132.at g_9_2 rfl).trans e126); have := ((hQ132.at g_9_3 rfl).trans e122); omega, by have := e142; omega, by have := e146; omega, by omega, by omega, by omega, by omega, Or.inr ⟨by omega, by rw [e146, e142]; exact A_n xp0.r (by omega) (by omega) (by omega) (by omega) (by omega) (by omega) (by omega) (by omega) (by omega) (by omega)⟩, (TXP_sm (Sm.fr hQ132 rfl) pr116), (TCP_sm (Sm.fr hQ132 rfl) pr117), (OCe_sm (Sm.fr hQ132 rfl) (OCe_sm (Sm.fr hQ108 rfl) (OCe_sm (Sm.fr hQ84 rfl) (OCe_sm (Sm.fr hQ60 rfl) (OCe_sm (Sm.fr hQ36 rfl) (OCe_sm (Sm.fr hQ12 rfl) hOe))))))⟩)
            · intro h149
              replace h114 := h114 (z1_of h119 h120 h149)
              refine wk_al0 r153_106 (wk_al0 r153_107 (wk_cv1 r153_108 kc_6_173 rfl (n7173_6 _ M106 x9_1 v121 v125 x6_4 x6_5 T hP107 ((hQ108.at g_9_1 rfl).trans ((hQ84.at g_9_1 rfl).trans ((hQ60.at g_9_1 rfl).trans ((hQ36.at g_9_1 rfl).trans ((hQ12.at g_9_1 rfl).trans ex9_1))))) (by first | with_reducible assumption | omega) (by first | with_reducible assumption | omega) e122 (by first | with_reducible assumption | omega) (by first | with_reducible assumption | omega) e126 (by first | with_reducible assumption | omega) (by first | with_reducible assumption | omega) ((hQ108.at g_6_4 rfl).trans ((hQ84.at g_6_4 rfl).trans ((hQ60.at g_6_4 rfl).trans ((hQ36.at g_6_4 rfl).trans ((hQ12.at g_6_4 rfl).trans ex6_4))))) (by first | with_reducible assumption | omega) (by first | with_reducible assumption | omega) ((hQ108.at g_6_5 rfl).trans ((hQ84.at g_6_5 rfl).trans ((hQ60.at g_6_5 rfl).trans ((hQ36.at g_6_5 rfl).trans ((hQ12.at g_6_5 rfl).trans ex6_5))))) (by first | with_reducible assumption | omega) (by first | with_reducible assumption | omega) (by omega) (by omega) (by omega) pr116 pr117) (cqI ?_)))
              rintro v163 M150 ⟨hP151, hQ152, h164, h165, h154, h155, h156, h157, h158, h159, xh160, pr161, pr162⟩
              have hF153 : Fr fm_n7153_6 M0 M150 := hF109.tr hQ152 rfl
              obtain ⟨v166, e167⟩ : ∃ v, M150 9 3 = v := ⟨_, rfl⟩
              have h168 := (bf_9_3 hP151).1; rw [e167] at h168
              have h169 := (bf_9_3 hP151).2; rw [e167] at h169
              obtain ⟨v170, e171⟩ : ∃ v, M150 9 2 = v := ⟨_, rfl⟩
              have h172 := (bf_9_2 hP151).1; rw [e171] at h172
              have h173 := (bf_9_2 hP151).2; rw [e171] at h173
              obtain ⟨v174, e175⟩ : ∃ v, M150 6 4 = v := ⟨_, rfl⟩
              have h176 := (bf_6_4 hP151).1; rw [e175] at h176
              have h177 := (bf_6_4 hP151).2; rw [e175] at h177
              obtain ⟨v178, e179⟩ : ∃ v, M150 6 5 = v := ⟨_, rfl⟩
              have h180 := (bf_6_5 hP151).1; rw [e179] at h180
              have h181 := (bf_6_5 hP151).2; rw [e179] at h181
              refine wk_cv2 r153_111 kc_6_163 rfl (n7163_6 _ M150 v163 x9_1 v166 v170 v174 v178 x6_3 T c0 z0 o w ((p1 + 1)) x9_3 hP151 (by first | with_reducible assumption | omega) (by first | with_reducible assumption | omega) ((hQ152.at g_9_1 rfl).trans ((hQ108.at g_9_1 rfl).trans ((hQ84.at g_9_1 rfl).trans ((hQ60.at g_9_1 rfl).trans ((hQ36.at g_9_1 rfl).trans ((hQ12.at g_9_1 rfl).trans ex9_1)))))) (by first | with_reducible assumption | omega) (by first | with_reducible assumption | omega) e167 (by first | with_reducible assumption | omega) (by first | with_reducible assumption | omega) e171 (by first | with_reducible assumption | omega) (by first | with_reducible assumption | omega) e175 (by first | with_reducible assumption | omega) (by first | with_reducible assumption | omega) e179 (by first | with_reducible assumption | omega) (by first | with_reducible assumption | omega) ((hQ152.at g_6_3 rfl).trans ((hQ108.at g_6_3 rfl).trans ((hQ84.at g_6_3 rfl).trans ((hQ60.at g_6_3 rfl).trans ((hQ36.at g_6_3 rfl).trans ((hQ12.at g_6_3 rfl).trans ex6_3)))))) (by first | with_reducible assumption | omega) (by first | with_reducible assumption | omega) (by omega) (by omega) (by omega) (MXx_mk (s1 := v121) xp0 (by omega) (by omega) (by omega) (by omega) (by have := kdI_c T x9_1 v121; have := kw_2 (T := T) (n := x9_1) (s := x9_3) (by omega); omega)) (CLe_len (CLe_sm (Sm.fr hQ152 rfl) (CLe_sm (Sm.fr hQ108 rfl) (CLe_sm (Sm.fr hQ84 rfl) (CLe_sm (Sm.fr hQ60 rfl) (CLe_sm (Sm.fr hQ36 rfl) (CLe_sm (Sm.fr hQ12 rfl) hCe)))))) (by omega)) pr161 pr162) (cqI ?_)
              rintro v201 M182 ⟨hP183, hQ184, h202, h203, h186, h187, h188, h189, h190, h191, h192, h193, h194, h195, h196, xh197, pr198, pr199, pr200⟩
              have hF185 : Fr fm_n7153_6 M0 M182 := hF153.tr hQ184 rfl
              have pr204 : OCe M182 M0 := OCe_tr pr200 (OCe_sm (Sm.fr hQ152 rfl) (OCe_sm (Sm.fr hQ108 rfl) (OCe_sm (Sm.fr hQ84 rfl) (OCe_sm (Sm.fr hQ60 rfl) (OCe_sm (Sm.fr hQ36 rfl) (OCe_sm (Sm.fr hQ12 rfl) hOe))))))
              obtain ⟨v205, e206⟩ : ∃ v, M182 9 3 = v := ⟨_, rfl⟩
              have h207 := (bf_9_3 hP183).1; rw [e206] at h207
              have h208 := (bf_9_3 hP183).2; rw [e206] at h208
              obtain ⟨v209, e210⟩ : ∃ v, M182 9 2 = v := ⟨_, rfl⟩
              have h211 := (bf_9_2 hP183).1; rw [e210] at h211
              have h212 := (bf_9_2 hP183).2; rw [e210] at h212
              obtain ⟨v213, e214⟩ : ∃ v, M182 6 4 = v := ⟨_, rfl⟩
              have h215 := (bf_6_4 hP183).1; rw [e214] at h215
              have h216 := (bf_6_4 hP183).2; rw [e214] at h216
              obtain ⟨v217, e218⟩ : ∃ v, M182 6 5 = v := ⟨_, rfl⟩
              have h219 := (bf_6_5 hP183).1; rw [e218] at h219
              have h220 := (bf_6_5 hP183).2; rw [e218] at h220
              refine wk_goto r153_114 ?_
              subst hQ; exact wk_zret r153_122 ⟨by omega, by omega⟩ (⟨rfl, _, rfl, hP183, hF185, by omega, by omega, by have := e206; omega, by have := e206; omega, by have := e210; omega, by have := e210; have := e206; omega, by have := e214; omega, by have := e218; omega, by have := e214; omega, by have := e214; omega, by have := e218; omega, by have := e218; omega, by rcases (show v201 = 1 ∨ v201 = 0 by omega) with q9 | q9; (exact Or.inl ⟨q9, by rw [e206]; exact (by have q7 := or_l xh197 (by omega); rw [((CLe_sm (Sm.fr hQ152 rfl) (CLe_sm (Sm.fr hQ108 rfl) (CLe_sm (Sm.fr hQ84 rfl) (CLe_sm (Sm.fr hQ60 rfl) (CLe_sm (Sm.fr hQ36 rfl) (CLe_sm (Sm.fr hQ12 rfl) hCe))))))).2] at q7; exact XN_c q7 (e206).symm rfl (by omega))⟩); (exact Or.inr ⟨q9, by rw [e218, e214]; exact F_k (or_r xh197 (by omega)) (by omega) (by omega)⟩), pr198, pr199, pr204⟩)
          · intro h221
            replace h90 := h90 (z1_of h95 h96 h221)
            have r1 : AXx T x9_1 x6_3 c0 z0 (p1 + 1) 99 v97 o w x9_3 := AXx_mk xp0 (by omega) (by omega) (by omega) (by omega) (by omega) (by have := kw_2 (T := T) (n := x9_1) (s := x9_3) (by omega); omega)
            refine wk_al0 r153_92 (wk_cv1 r153_93 kc_6_176 rfl (n7176_6 _ M82 x9_1 v97 v101 x6_4 x6_5 x6_3 T c0 z0 o w ((p1 + 1)) x9_3 hP83 ((hQ84.at g_9_1 rfl).trans ((hQ60.at g_9_1 rfl).trans ((hQ36.at g_9_1 rfl).trans ((hQ12.at g_9_1 rfl).trans ex9_1)))) (by first | with_reducible assumption | omega) (by first | with_reducible assumption | omega) e98 (by first | with_reducible assumption | omega) (by first | with_reducible assumption | omega) e102 (by first | with_reducible assumption | omega) (by first | with_reducible assumption | omega) ((hQ84.at g_6_4 rfl).trans ((hQ60.at g_6_4 rfl).trans ((hQ36.at g_6_4 rfl).trans ((hQ12.at g_6_4 rfl).trans ex6_4)))) (by first | with_reducible assumption | omega) (by first | with_reducible assumption | omega) ((hQ84.at g_6_5 rfl).trans ((hQ60.at g_6_5 rfl).trans ((hQ36.at g_6_5 rfl).trans ((hQ12.at g_6_5 rfl).trans ex6_5)))) (by first | with_reducible assumption | omega) (by first | with_reducible assumption | omega) ((hQ84.at g_6_3 rfl).trans ((hQ60.at g_6_3 rfl).trans ((hQ36.at g_6_3 rfl).trans ((hQ12.at g_6_3 rfl).trans ex6_3)))) (by first | with_reducible assumption | omega) (by first | with_reducible assumption | omega) (by omega) (by omega) (by omega) (r1) (CLe_len (CLe_sm (Sm.fr hQ84 rfl) (CLe_sm (Sm.fr hQ60 rfl) (CLe_sm (Sm.fr hQ36 rfl) (CLe_sm (Sm.fr hQ12 rfl) hCe)))) (by omega)) pr92 pr93) (cqI ?_))
            rintro v240 M222 ⟨hP223, hQ224, h241, h242, h226, h227, h228, h229, h230, h231, h232, h233, h234, h235, xh236, pr237, pr238, pr239⟩
            have hF225 : Fr fm_n7153_6 M0 M222 := hF85.tr hQ224 rfl
            have pr243 : OCe M222 M0 := OCe_tr pr239 (OCe_sm (Sm.fr hQ84 rfl) (OCe_sm (Sm.fr hQ60 rfl) (OCe_sm (Sm.fr hQ36 rfl) (OCe_sm (Sm.fr hQ12 rfl) hOe))))
            obtain ⟨v244, e245⟩ : ∃ v, M222 9 3 = v := ⟨_, rfl⟩
            have h246 := (bf_9_3 hP223).1; rw [e245] at h246
            have h247 := (bf_9_3 hP223).2; rw [e245] at h247
            obtain ⟨v248, e249⟩ : ∃ v, M222 9 2 = v := ⟨_, rfl⟩
            have h250 := (bf_9_2 hP223).1; rw [e249] at h250
            have h251 := (bf_9_2 hP223).2; rw [e249] at h251
            obtain ⟨v252, e253⟩ : ∃ v, M222 6 4 = v := ⟨_, rfl⟩
            have h254 := (bf_6_4 hP223).1; rw [e253] at h254
            have h255 := (bf_6_4 hP223).2; rw [e253] at h255
            obtain ⟨v256, e257⟩ : ∃ v, M222 6 5 = v := ⟨_, rfl⟩
            have h258 := (bf_6_5 hP223).1; rw [e257] at h258
            have h259 := (bf_6_5 hP223).2; rw [e257] at h259
            subst hQ; exact wk_zret r153_96 ⟨by omega, by omega⟩ (⟨rfl, _, rfl, hP223, hF225, by omega, by omega, by have := e245; omega, by have := e245; omega, by have := e249; omega, by have := e249; have := e245; omega, by have := e253; omega, by have := e257; omega, by have := e253; omega, by have := e253; omega, by have := e257; omega, by have := e257; omega, by rcases (show v240 = 1 ∨ v240 = 0 by omega) with q9 | q9; (exact Or.inl ⟨q9, by rw [e245]; exact (by have q7 := or_l xh236 (by omega); rw [((CLe_sm (Sm.fr hQ84 rfl) (CLe_sm (Sm.fr hQ60 rfl) (CLe_sm (Sm.fr hQ36 rfl) (CLe_sm (Sm.fr hQ12 rfl) hCe))))).2] at q7; exact XN_c q7 (e245).symm rfl (by omega))⟩); (exact Or.inr ⟨q9, by rw [e257, e253]; exact F_k (or_r xh236 (by omega)) (by omega) (by omega)⟩), pr237, pr238, pr243⟩)
        · intro h260
          replace h66 := h66 (z1_of h71 h72 h260)
          have r1 : AXx T x9_1 x6_3 c0 z0 (p1 + 1) 1 v73 o w x9_3 := AXx_mk xp0 (by omega) (by omega) (by omega) (by omega) (by omega) (by have := kw_2 (T := T) (n := x9_1) (s := x9_3) (by omega); omega)
          refine wk_al0 r153_70 (wk_c2 r153_71 (wk_al0 r153_73 (wk_c1 r153_74 (wk_c1 r153_75 (wk_cv3 r153_76 kc_6_167 rfl (n7167_6 _ M58 0 1 x9_1 v73 v77 x6_4 x6_5 T hP59 (by decide) (by decide) (by decide) (by decide) ((hQ60.at g_9_1 rfl).trans ((hQ36.at g_9_1 rfl).trans ((hQ12.at g_9_1 rfl).trans ex9_1))) (by first | with_reducible assumption | omega) (by first | with_reducible assumption | omega) e74 (by first | with_reducible assumption | omega) (by first | with_reducible assumption | omega) e78 (by first | with_reducible assumption | omega) (by first | with_reducible assumption | omega) ((hQ60.at g_6_4 rfl).trans ((hQ36.at g_6_4 rfl).trans ((hQ12.at g_6_4 rfl).trans ex6_4))) (by first | with_reducible assumption | omega) (by first | with_reducible assumption | omega) ((hQ60.at g_6_5 rfl).trans ((hQ36.at g_6_5 rfl).trans ((hQ12.at g_6_5 rfl).trans ex6_5))) (by first | with_reducible assumption | omega) (by first | with_reducible assumption | omega) (by omega) (by omega) (by omega) pr68 pr69) (cqI ?_))))))
          rintro v275 M261 ⟨hP262, hQ263, h276, h277, h265, h266, h267, h268, h269, h270, h271, xh272, pr273, pr274⟩
          have hF264 : Fr fm_n7153_6 M0 M261 := hF61.tr hQ263 rfl
          obtain ⟨v278, e279⟩ : ∃ v, M261 9 3 = v := ⟨_, rfl⟩
          have h280 := (bf_9_3 hP262).1; rw [e279] at h280
          have h281 := (bf_9_3 hP262).2; rw [e279] at h281
          obtain ⟨v282, e283⟩ : ∃ v, M261 9 2 = v := ⟨_, rfl⟩
          have h284 := (bf_9_2 hP262).1; rw [e283] at h284
          have h285 := (bf_9_2 hP262).2; rw [e283] at h285
          obtain ⟨v286, e287⟩ : ∃ v, M261 6 4 = v := ⟨_, rfl⟩
          have h288 := (bf_6_4 hP262).1; rw [e287] at h288
          have h289 := (bf_6_4 hP262).2; rw [e287] at h289
          obtain ⟨v290, e291⟩ : ∃ v, M261 6 5 = v := ⟨_, rfl⟩
          have h292 := (bf_6_5 hP262).1; rw [e291] at h292
          have h293 := (bf_6_5 hP262).2; rw [e291] at h293
          refine wk_cv3 r153_79 kc_6_171 rfl (n7171_6 _ M261 46 v275 hP262 (by decide) (by decide) (by first | with_reducible assumption | omega) (by first | with_reducible assumption | omega)) (cqI ?_)
          rintro v300 M294 ⟨hP295, hQ296, h301, h302, xh298, pr299⟩
          have hF297 : Fr fm_n7153_6 M0 M294 := hF264.tr hQ296 rfl
          have pr303 : OCe M294 M0 := OCe_tr pr299 (OCe_sm (Sm.fr hQ263 rfl) (OCe_sm (Sm.fr hQ60 rfl) (OCe_sm (Sm.fr hQ36 rfl) (OCe_sm (Sm.fr hQ12 rfl) hOe))))
          subst hQ; exact wk_zret r153_82 ⟨by omega, by omega⟩ (⟨rfl, _, rfl, hP295, hF297, by omega, by omega, by have := ((hQ296.at g_9_3 rfl).trans e279); omega, by have := ((hQ296.at g_9_3 rfl).trans e279); omega, by have := ((hQ296.at g_9_2 rfl).trans e283); omega, by have := ((hQ296.at g_9_2 rfl).trans e283); have := ((hQ296.at g_9_3 rfl).trans e279); omega, by have := ((hQ296.at g_6_4 rfl).trans e287); omega, by have := ((hQ296.at g_6_5 rfl).trans e291); omega, by have := ((hQ296.at g_6_4 rfl).trans e287); omega, by have := ((hQ296.at g_6_4 rfl).trans e287); omega, by have := ((hQ296.at g_6_5 rfl).trans e291); omega, by have := ((hQ296.at g_6_5 rfl).trans e291); omega, by rcases (show v300 = 1 ∨ v300 = 0 by omega) with q9 | q9; (exact Or.inl ⟨q9, by rw [((hQ296.at g_9_3 rfl).trans e279)]; exact XN_row (rb := 46) (k := v275) r1 (by omega) (by omega) (by omega) (by omega) (by decide) (((xh298).resolve_right (fun q8 => by omega)).2.2 _ (CLe_sm (Sm.fr hQ263 rfl) (CLe_sm (Sm.fr hQ60 rfl) (CLe_sm (Sm.fr hQ36 rfl) (CLe_sm (Sm.fr hQ12 rfl) hCe)))) (by omega)).2 (by omega) (by omega) (by omega)⟩); (exact Or.inr ⟨q9, by rw [((hQ296.at g_6_5 rfl).trans e291), ((hQ296.at g_6_4 rfl).trans e287)]; exact AX_e (AXx_r r1) (by omega) (by omega) (by omega)⟩), (TXP_sm (Sm.fr hQ296 rfl) pr273), (TCP_sm (Sm.fr hQ296 rfl) pr274), pr303⟩)
      · intro h304
        replace h42 := h42 (z1_of h47 h48 h304)
        have r1 : AXx T x9_1 x6_3 c0 z0 (p1 + 1) 6 v49 o w x9_3 := AXx_mk xp0 (by omega) (by omega) (by omega) (by omega) (by omega) (by have := kw_2 (T := T) (n := x9_1) (s := x9_3) (by omega); omega)
        refine wk_al0 r153_47 (wk_c2 r153_48 (wk_al0 r153_50 (wk_c1 r153_51 (wk_c2 r153_52 (wk_cv3 r153_54 kc_6_167 rfl (n7167_6 _ M34 0 6 x9_1 v49 v53 x6_4 x6_5 T hP35 (by decide) (by decide) (by decide) (by decide) ((hQ36.at g_9_1 rfl).trans ((hQ12.at g_9_1 rfl).trans ex9_1)) (by first | with_reducible assumption | omega) (by first | with_reducible assumption | omega) e50 (by first | with_reducible assumption | omega) (by first | with_reducible assumption | omega) e54 (by first | with_reducible assumption | omega) (by first | with_reducible assumption | omega) ((hQ36.at g_6_4 rfl).trans ((hQ12.at g_6_4 rfl).trans ex6_4)) (by first | with_reducible assumption | omega) (by first | with_reducible assumption | omega) ((hQ36.at g_6_5 rfl).trans ((hQ12.at g_6_5 rfl).trans ex6_5)) (by first | with_reducible assumption | omega) (by first | with_reducible assumption | omega) (by omega) (by omega) (by omega) pr44 pr45) (cqI ?_))))))
        rintro v319 M305 ⟨hP306, hQ307, h320, h321, h309, h310, h311, h312, h313, h314, h315, xh316, pr317, pr318⟩
        have hF308 : Fr fm_n7153_6 M0 M305 := hF37.tr hQ307 rfl
        obtain ⟨v322, e323⟩ : ∃ v, M305 9 3 = v := ⟨_, rfl⟩
        have h324 := (bf_9_3 hP306).1; rw [e323] at h324
        have h325 := (bf_9_3 hP306).2; rw [e323] at h325
        obtain ⟨v326, e327⟩ : ∃ v, M305 9 2 = v := ⟨_, rfl⟩
        have h328 := (bf_9_2 hP306).1; rw [e327] at h328
        have h329 := (bf_9_2 hP306).2; rw [e327] at h329
        obtain ⟨v330, e331⟩ : ∃ v, M305 6 4 = v := ⟨_, rfl⟩
        have h332 := (bf_6_4 hP306).1; rw [e331] at h332
        have h333 := (bf_6_4 hP306).2; rw [e331] at h333
        obtain ⟨v334, e335⟩ : ∃ v, M305 6 5 = v := ⟨_, rfl⟩
        have h336 := (bf_6_5 hP306).1; rw [e335] at h336
        have h337 := (bf_6_5 hP306).2; rw [e335] at h337
        refine wk_cv3 r153_57 kc_6_171 rfl (n7171_6v1 _ M305 39 v319 hP306 (by decide) (by decide) (by first | with_reducible assumption | omega) (by first | with_reducible assumption | omega)) (cqI ?_)
        rintro v344 M338 ⟨hP339, hQ340, h345, h346, xh342, pr343⟩
        have hF341 : Fr fm_n7153_6 M0 M338 := hF308.tr hQ340 rfl
        have pr347 : OCe M338 M0 := OCe_tr pr343 (OCe_sm (Sm.fr hQ307 rfl) (OCe_sm (Sm.fr hQ36 rfl) (OCe_sm (Sm.fr hQ12 rfl) hOe)))
        subst hQ; exact wk_zret r153_60 ⟨by omega, by omega⟩ (⟨rfl, _, rfl, hP339, hF341, by omega, by omega, by have := ((hQ340.at g_9_3 rfl).trans e323); omega, by have := ((hQ340.at g_9_3 rfl).trans e323); omega, by have := ((hQ340.at g_9_2 rfl).trans e327); omega, by have := ((hQ340.at g_9_2 rfl).trans e327); have := ((hQ340.at g_9_3 rfl).trans e323); omega, by have := ((hQ340.at g_6_4 rfl).trans e331); omega, by have := ((hQ340.at g_6_5 rfl).trans e335); omega, by have := ((hQ340.at g_6_4 rfl).trans e331); omega, by have := ((hQ340.at g_6_4 rfl).trans e331); omega, by have := ((hQ340.at g_6_5 rfl).trans e335); omega, by have := ((hQ340.at g_6_5 rfl).trans e335); omega, by rcases (show v344 = 1 ∨ v344 = 0 by omega) with q9 | q9; (exact Or.inl ⟨q9, by rw [((hQ340.at g_9_3 rfl).trans e323)]; exact XN_row (rb := 39) (k := v319) r1 (by omega) (by omega) (by omega) (by omega) (by decide) (((xh342).resolve_right (fun q8 => by omega)).2.2 _ (CLe_sm (Sm.fr hQ307 rfl) (CLe_sm (Sm.fr hQ36 rfl) (CLe_sm (Sm.fr hQ12 rfl) hCe))) (by omega)).2 (by omega) (by omega) (by omega)⟩); (exact Or.inr ⟨q9, by rw [((hQ340.at g_6_5 rfl).trans e335), ((hQ340.at g_6_4 rfl).trans e331)]; exact AX_e (AXx_r r1) (by omega) (by omega) (by omega)⟩), (TXP_sm (Sm.fr hQ340 rfl) pr317), (TCP_sm (Sm.fr hQ340 rfl) pr318), pr347⟩)
    · intro h348
      replace h18 := h18 (z1_of h23 h24 h348)
      have r1 : AXx T x9_1 x6_3 c0 z0 (p1 + 1) 3 v25 o w x9_3 := AXx_mk xp0 (by omega) (by omega) (by omega) (by omega) (by omega) (by have := kw_2 (T := T) (n := x9_1) (s := x9_3) (by omega); omega)
      refine wk_al0 r153_25 (wk_c2 r153_26 (wk_al0 r153_28 (wk_c1 r153_29 (wk_c1 r153_30 (wk_cv3 r153_31 kc_6_167 rfl (n7167_6 _ M10 0 3 x9_1 v25 v29 x6_4 x6_5 T hP11 (by decide) (by decide) (by decide) (by decide) ((hQ12.at g_9_1 rfl).trans ex9_1) (by first | with_reducible assumption | omega) (by first | with_reducible assumption | omega) e26 (by first | with_reducible assumption | omega) (by first | with_reducible assumption | omega) e30 (by first | with_reducible assumption | omega) (by first | with_reducible assumption | omega) ((hQ12.at g_6_4 rfl).trans ex6_4) (by first | with_reducible assumption | omega) (by first | with_reducible assumption | omega) ((hQ12.at g_6_5 rfl).trans ex6_5) (by first | with_reducible assumption | omega) (by first | with_reducible assumption | omega) (by omega) (by omega) (by omega) pr20 pr21) (cqI ?_))))))
      rintro v363 M349 ⟨hP350, hQ351, h364, h365, h353, h354, h355, h356, h357, h358, h359, xh360, pr361, pr362⟩
      have hF352 : Fr fm_n7153_6 M0 M349 := hF13.tr hQ351 rfl
      obtain ⟨v366, e367⟩ : ∃ v, M349 9 3 = v := ⟨_, rfl⟩
      have h368 := (bf_9_3 hP350).1; rw [e367] at h368
      have h369 := (bf_9_3 hP350).2; rw [e367] at h369
      obtain ⟨v370, e371⟩ : ∃ v, M349 9 2 = v := ⟨_, rfl⟩
      have h372 := (bf_9_2 hP350).1; rw [e371] at h372
      have h373 := (bf_9_2 hP350).2; rw [e371] at h373
      obtain ⟨v374, e375⟩ : ∃ v, M349 6 4 = v := ⟨_, rfl⟩
      have h376 := (bf_6_4 hP350).1; rw [e375] at h376
      have h377 := (bf_6_4 hP350).2; rw [e375] at h377
      obtain ⟨v378, e379⟩ : ∃ v, M349 6 5 = v := ⟨_, rfl⟩
      have h380 := (bf_6_5 hP350).1; rw [e379] at h380
      have h381 := (bf_6_5 hP350).2; rw [e379] at h381
      refine wk_cv3 r153_34 kc_6_171 rfl (n7171_6v2 _ M349 35 v363 hP350 (by decide) (by decide) (by first | with_reducible assumption | omega) (by first | with_reducible assumption | omega)) (cqI ?_)
      rintro v388 M382 ⟨hP383, hQ384, h389, h390, xh386, pr387⟩
      have hF385 : Fr fm_n7153_6 M0 M382 := hF352.tr hQ384 rfl
      have pr391 : OCe M382 M0 := OCe_tr pr387 (OCe_sm (Sm.fr hQ351 rfl) (OCe_sm (Sm.fr hQ12 rfl) hOe))
      subst hQ; exact wk_zret r153_37 ⟨by omega, by omega⟩ (⟨rfl, _, rfl, hP383, hF385, by omega, by omega, by have := ((hQ384.at g_9_3 rfl).trans e367); omega, by have := ((hQ384.at g_9_3 rfl).trans e367); omega, by have := ((hQ384.at g_9_2 rfl).trans e371); omega, by have := ((hQ384.at g_9_2 rfl).trans e371); have := ((hQ384.at g_9_3 rfl).trans e367); omega, by have := ((hQ384.at g_6_4 rfl).trans e375); omega, by have := ((hQ384.at g_6_5 rfl).trans e379); omega, by have := ((hQ384.at g_6_4 rfl).trans e375); omega, by have := ((hQ384.at g_6_4 rfl).trans e375); omega, by have := ((hQ384.at g_6_5 rfl).trans e379); omega, by have := ((hQ384.at g_6_5 rfl).trans e379); omega, by rcases (show v388 = 1 ∨ v388 = 0 by omega) with q9 | q9; (exact Or.inl ⟨q9, by rw [((hQ384.at g_9_3 rfl).trans e367)]; exact XN_row (rb := 35) (k := v363) r1 (by omega) (by omega) (by omega) (by omega) (by decide) (((xh386).resolve_right (fun q8 => by omega)).2.2 _ (CLe_sm (Sm.fr hQ351 rfl) (CLe_sm (Sm.fr hQ12 rfl) hCe)) (by omega)).2 (by omega) (by omega) (by omega)⟩); (exact Or.inr ⟨q9, by rw [((hQ384.at g_6_5 rfl).trans e379), ((hQ384.at g_6_4 rfl).trans e375)]; exact AX_e (AXx_r r1) (by omega) (by omega) (by omega)⟩), (TXP_sm (Sm.fr hQ384 rfl) pr361), (TCP_sm (Sm.fr hQ384 rfl) pr362), pr391⟩)
  · intro h392
    refine wk_al0 r153_10 (wk_il1 r153_11 (wk_cv2 r153_12 kc_6_152 rfl (n7152_6 _ M0 p1 x9_1 x9_3 x9_2 x6_4 x6_5 x6_3 T c0 z0 o w gk hP0 (by first | with_reducible assumption | omega) (by first | with_reducible assumption | omega) ex9_1 (by first | with_reducible assumption | omega) (by first | with_reducible assumption | omega) ex9_3 (by first | with_reducible assumption | omega) (by first | with_reducible assumption | omega) ex9_2 (by first | with_reducible assumption | omega) (by first | with_reducible assumption | omega) ex6_4 (by first | with_reducible assumption | omega) (by first | with_reducible assumption | omega) ex6_5 (by first | with_reducible assumption | omega) (by first | with_reducible assumption | omega) ex6_3 (by first | with_reducible assumption | omega) (by first | with_reducible assumption | omega) (by omega) (by omega) (by omega) (by omega) (xp0) (by omega) (CLe_len hCe (by omega)) pp_TX pp_TC (fun h1 d2 h2 => hX h1 d2 (by omega))) (cqI ?_)))
    rintro v411 M393 ⟨hP394, hQ395, h412, h413, h397, h398, h399, h400, h401, h402, h403, h404, h405, h406, xh407, pr408, pr409, pr410⟩
    have hF396 : Fr fm_n7153_6 M0 M393 := hF0.tr hQ395 rfl
    have pr414 : OCe M393 M0 := OCe_tr pr410 hOe
    obtain ⟨v415, e416⟩ : ∃ v, M393 9 3 = v := ⟨_, rfl⟩
    have h417 := (bf_9_3 hP394).1; rw [e416] at h417
    have h418 := (bf_9_3 hP394).2; rw [e416] at h418
    obtain ⟨v419, e420⟩ : ∃ v, M393 9 2 = v := ⟨_, rfl⟩
    have h421 := (bf_9_2 hP394).1; rw [e420] at h421
    have h422 := (bf_9_2 hP394).2; rw [e420] at h422
    obtain ⟨v423, e424⟩ : ∃ v, M393 6 4 = v := ⟨_, rfl⟩
    have h425 := (bf_6_4 hP394).1; rw [e424] at h425
    have h426 := (bf_6_4 hP394).2; rw [e424] at h426
    obtain ⟨v427, e428⟩ : ∃ v, M393 6 5 = v := ⟨_, rfl⟩
    have h429 := (bf_6_5 hP394).1; rw [e428] at h429
    have h430 := (bf_6_5 hP394).2; rw [e428] at h430
    subst hQ; exact wk_zret r153_15 ⟨by omega, by omega⟩ (⟨rfl, _, rfl, hP394, hF396, by omega, by omega, by have := e416; omega, by have := e416; omega, by have := e420; omega, by have := e420; have := e416; omega, by have := e424; omega, by have := e428; omega, by have := e424; omega, by have := e424; omega, by have := e428; omega, by have := e428; omega, xh407, pr408, pr409, pr414⟩)
def fm_n7166_6 : Nat := 3941070043873280
set_option maxHeartbeats 20000000 in
/-- IslandHall$Parser.negation -/
theorem n7166_6 {B : eB} (d : Nat) (M0 : Mm) (p1 : Int) (x9_1 : Int) (x9_3 : Int) (x9_2 : Int) (x6_4 : Int) (x6_5 : Int) (x6_3 : Int) (T : Int → Int) (c0 : Cg) (z0 : Og) (o : List Int) (w : List Int) (hP0 : Pw M0) (l1 : 0 ≤ p1) (u1 : p1 ≤ 5) (ex9_1 : M0 9 1 = x9_1) (lx9_1 : 0 ≤ x9_1) (ux9_1 : x9_1 ≤ 500) (ex9_3 : M0 9 3 = x9_3) (lx9_3 : 0 ≤ x9_3) (ux9_3 : x9_3 ≤ 500) (ex9_2 : M0 9 2 = x9_2) (lx9_2 : 0 ≤ x9_2) (ux9_2 : x9_2 ≤ 500) (ex6_4 : M0 6 4 = x6_4) (lx6_4 : 0 ≤ x6_4) (ux6_4 : x6_4 ≤ 6) (ex6_5 : M0 6 5 = x6_5) (lx6_5 : (-1) ≤ x6_5) (ux6_5 : x6_5 ≤ 500) (ex6_3 : M0 6 3 = x6_3) (lx6_3 : (-1) ≤ x6_3) (ux6_3 : x6_3 ≤ 7) (rp0 : 0 ≤ x9_1 + (-1) * x9_2) (rp1 : 0 ≤ x9_2 + (-1) * x9_3) (rp2 : 0 ≤ x9_1 + (-1) * x9_3) (rp3 : 0 ≤ (-1) * x6_3 + 7) (xp0 : RQ T x9_1 x6_3 (c0, z0) ((1, p1 + 1, x9_3, 0), (o, w))) (xp1 : fix 3 w) (xp2 : 2 * ((CLm M0).length : Int) ≤ x9_3 + 2) (pp_TX : TXP T M0) (pp_TC : TCP T M0) (hX : p1 ≤ 5 → ∀ d2 : Nat, d ≤ d2 → ∀ (M0 : Mm) (x9_1 : Int) (x9_3 : Int) (x9_2 : Int) (x6_4 : Int) (x6_5 : Int) (x6_3 : Int) (T : Int → Int) (c0 : Cg) (z0 : Og) (o : List Int) (w : List Int) (hP0 : Pw M0) (ex9_1 : M0 9 1 = x9_1) (lx9_1 : 0 ≤ x9_1) (ux9_1 : x9_1 ≤ 500) (ex9_3 : M0 9 3 = x9_3) (lx9_3 : 0 ≤ x9_3) (ux9_3 : x9_3 ≤ 500) (ex9_2 : M0 9 2 = x9_2) (lx9_2 : 0 ≤ x9_2) (ux9_2 : x9_2 ≤ 500) (ex6_4 : M0 6 4 = x6_4) (lx6_4 : 0 ≤ x6_4) (ux6_4 : x6_4 ≤ 6) (ex6_5 : M0 6 5 = x6_5) (lx6_5 : (-1) ≤ x6_5) (ux6_5 : x6_5 ≤ 500) (ex6_3 : M0 6 3 = x6_3) (lx6_3 : (-1) ≤ x6_3) (ux6_3 : x6_3 ≤ 7) (rp0 : 0 ≤ x9_1 + (-1) * x9_2) (rp1 : 0 ≤ x9_2 + (-1) * x9_3) (rp2 : 0 ≤ x9_1 + (-1) * x9_3) (rp3 : 0 ≤ (-1) * x6_3 + 7) (xp0 : RQ T x9_1 x6_3 (c0, z0) ((0, (p1 + 1), x9_3, 0), (o, w))) (xp1 : fix 1 w) (xp2 : 2 * ((CLm M0).length : Int) ≤ x9_3 + 2) (pp_TX : TXP T M0) (pp_TC : TCP T M0), Ct B (d2 + 20) 158 [R 6, I (p1 + 1)] M0 (qI fun z M => Pw M ∧ Fr fm_n7158_6E M0 M ∧ 0 ≤ z ∧ z ≤ 1 ∧ 0 ≤ M 9 3 + (-1) * x9_3 ∧ 0 ≤ x9_1 + (-1) * (M 9 3) ∧ 0 ≤ x9_1 + (-1) * (M 9 2) ∧ 0 ≤ M 9 2 + (-1) * (M 9 3) ∧ 0 ≤ M 6 4 ∧ 0 ≤ M 6 5 + 1 ∧ (z = 1 → 0 ≤ M 6 4 + (-1) * x6_4) ∧ (z = 1 → 0 ≤ (-1) * (M 6 4) + x6_4) ∧ (z = 1 → 0 ≤ M 6 5 + (-1) * x6_5) ∧ (z = 1 → 0 ≤ (-1) * (M 6 5) + x6_5) ∧ ((z = 1 ∧ XN T x9_1 x6_3 c0 z0 ((p1 + 1) + 1) (M 9 3) o w 1 (CLm M0) (CLm M) (13 - 2 * (p1 + 1)) x9_3 ∧ kw T x9_1 (M 9 3) ≠ 12 ∧ kw T x9_1 (M 9 3) ≠ 13) ∨ (z = 0 ∧ Rch T x9_1 x6_3 c0 (3, 0, M 6 5, M 6 4))) ∧ (TXP T M) ∧ (TCP T M) ∧ (OCe M M0))) : Ct B (d + 24) 166 [R 6, I p1] M0 (qI fun z M => Pw M ∧ Fr fm_n7166_6 M0 M ∧ 0 ≤ z ∧ z ≤ 1 ∧ 0 ≤ M 9 3 + (-1) * x9_3 ∧ 0 ≤ x9_1 + (-1) * (M 9 3) ∧ 0 ≤ x9_1 + (-1) * (M 9 2) ∧ 0 ≤ M 9 2 + (-1) * (M 9 3) ∧ 0 ≤ M 6 4 ∧ 0 ≤ M 6 5 + 1 ∧ (z = 1 → 0 ≤ M 6 4 + (-1) * x6_4) ∧ (z = 1 → 0 ≤ (-1) * (M 6 4) + x6_4) ∧ (z = 1 → 0 ≤ M 6 5 + (-1) * x6_5) ∧ (z = 1 → 0 ≤ (-1) * (M 6 5) + x6_5) ∧ ((z = 1 ∧ XN T x9_1 x6_3 c0 z0 (p1 + 1) (M 9 3) o w 3 (CLm M0) (CLm M) (11 - 2 * p1) x9_3) ∨ (z = 0 ∧ Rch T x9_1 x6_3 c0 (3, 0, M 6 5, M 6 4))) ∧ (TXP T M) ∧ (TCP T M) ∧ (OCe M M0)) := by
  refine ct_of (d := d + 23) (k := 2) (L := [some (R 6), some (I p1), none, none]) rfl rfl rfl ?_
  have hF0 := Fr.rf fm_n7166_6 M0
  generalize hQ : (qI fun z M => Pw M ∧ Fr fm_n7166_6 M0 M ∧ 0 ≤ z ∧ z ≤ 1 ∧ 0 ≤ M 9 3 + (-1) * x9_3 ∧ 0 ≤ x9_1 + (-1) * (M 9 3) ∧ 0 ≤ x9_1 + (-1) * (M 9 2) ∧ 0 ≤ M 9 2 + (-1) * (M 9 3) ∧ 0 ≤ M 6 4 ∧ 0 ≤ M 6 5 + 1 ∧ (z = 1 → 0 ≤ M 6 4 + (-1) * x6_4) ∧ (z = 1 → 0 ≤ (-1) * (M 6 4) + x6_4) ∧ (z = 1 → 0 ≤ M 6 5 + (-1) * x6_5) ∧ (z = 1 → 0 ≤ (-1) * (M 6 5) + x6_5) ∧ ((z = 1 ∧ XN T x9_1 x6_3 c0 z0 (p1 + 1) (M 9 3) o w 3 (CLm M0) (CLm M) (11 - 2 * p1) x9_3) ∨ (z = 0 ∧ Rch T x9_1 x6_3 c0 (3, 0, M 6 5, M 6 4))) ∧ (TXP T M) ∧ (TCP T M) ∧ (OCe M M0)) = Q
  have hCe : CLe M0 (CLm M0) := ⟨pcE hP0, rfl⟩
  have hOe : OCe M0 M0 := OCe_rf M0
  refine wk_c1 r166_0 (wk_is2 r166_1 rfl ?_)
  have c2_1678 : ∀ (k1678 : Nat) (M1341 : Mm) (v1338 : Int) (v1344 : Int) (v1348 : Int), (6 - v1338).toNat = k1678 → Pw M1341 → Fr fm_n7166_6 M0 M1341 → M1341 9 3 = v1344 → M1341 9 2 = v1348 → M1341 9 1 = x9_1 → M1341 6 4 = x6_4 → M1341 6 5 = x6_5 → M1341 6 3 = x6_3 → 0 ≤ v1338 → v1338 ≤ 6 → 0 ≤ v1344 → v1344 ≤ 500 → 0 ≤ v1348 → v1348 ≤ 500 → (TXP T M1341) → (TCP T M1341) → (CLe M1341 (CLm M0)) → (OCe M1341 M0) → 0 ≤ 1 * v1344 + (-1) * x9_3 → 0 ≤ 1 * x9_1 + (-1) * v1344 → 0 ≤ 1 * x9_1 + (-1) * v1348 → 0 ≤ 1 * v1348 + (-1) * v1344 → 0 ≤ (-1) * v1338 + v1344 + 0 → 0 ≤ (-1) * v1338 + v1348 + 0 → 0 ≤ (-1) * v1344 + v1338 + 500 → 0 ≤ (-1) * v1344 + v1348 + 0 → 0 ≤ (-1) * v1348 + v1338 + 500 → 0 ≤ (-1) * v1348 + v1344 + 500 → (RQ T x9_1 x6_3 (c0, z0) ((1, p1 + 1, v1344, v1338), (o, (ntw (v1338).toNat w))) ∧ ((v1338 = 0 ∧ v1344 = x9_3) ∨ x9_3 + 2 ≤ v1344)) → Wp B (d + 23) 166 2 [some (R 6), some (I p1), some (I v1338), none] [] M1341 Q := by
    refine lp_ind ?_
    intro k1678 ih1678 M1341 v1338 v1344 v1348 hk1678 hP1342 hF1343 e1347 e1351 e1352 e1353 e1354 e1355 h1339 h1340 h1345 h1346 h1349 h1350 pr1356 pr1357 pr1358 pr1359 h1360 h1361 h1362 h1363 h1364 h1365 h1366 h1367 h1368 h1369 ti1370
    refine wk_il2 r166_2 (wk_c2 r166_3 ?_)
    refine wk_icge r166_5 ⟨by omega, by omega⟩ (by decide) ?_ ?_
    · intro h1371
      refine wk_al0 r166_23 (wk_getfr r166_24 fd_6_0 (br_6_0 hP1342) (wk_c8 r166_27 (wk_cv2 r166_29 kc_9_239 rfl (n7239_9 _ M1341 4119 x9_1 v1344 T hP1342 (by decide) e1352 (by first | with_reducible assumption | omega) (by first | with_reducible assumption | omega) e1347 (by first | with_reducible assumption | omega) (by first | with_reducible assumption | omega) (by first | assumption | omega | (unfold stepok; omega)) pr1356 pr1357) (cqI ?_))))
      rintro v1377 M1372 ⟨hP1373, hQ1374, h1378, h1379, xh1376⟩
      obtain rfl := Fr.same hQ1374
      rw [show wix 4119 = 14 from rfl] at xh1376
      refine wk_ifeq r166_32 ⟨by omega, by omega⟩ ?_ ?_
      · intro h1380
        refine wk_al0 r166_41 (wk_getfr r166_42 fd_6_0 (br_6_0 hP1342) (wk_c2 r166_45 (wk_cv2 r166_47 kc_9_238 rfl (n7238_9 _ M1341 40 x9_1 v1344 T hP1342 (by decide) (by decide) e1352 (by first | with_reducible assumption | omega) (by first | with_reducible assumption | omega) e1347 (by first | with_reducible assumption | omega) (by first | with_reducible assumption | omega) pr1356 pr1357) (cqI ?_))))
        rintro v1386 M1381 ⟨hP1382, hQ1383, h1387, h1388, xh1385⟩
        obtain rfl := Fr.same hQ1383
        refine wk_ifeq r166_50 ⟨by omega, by omega⟩ ?_ ?_
        · intro h1389
          refine wk_al0 r166_61 (wk_il1 r166_62 ?_)
          refine wk_cv2 r166_63 kc_6_153 rfl (n7153_6 _ M1341 p1 x9_1 v1344 v1348 x6_4 x6_5 x6_3 T c0 z0 o ((ntw (v1338).toNat w)) v1338 hP1342 (by first | with_reducible assumption | omega) (by first | with_reducible assumption | omega) e1352 (by first | with_reducible assumption | omega) (by first | with_reducible assumption | omega) e1347 (by first | with_reducible assumption | omega) (by first | with_reducible assumption | omega) e1351 (by first | with_reducible assumption | omega) (by first | with_reducible assumption | omega) e1353 (by first | with_reducible assumption | omega) (by first | with_reducible assumption | omega) e1354 (by first | with_reducible assumption | omega) (by first | with_reducible assumption | omega) e1355 (by first | with_reducible assumption | omega) (by first | with_reducible assumption | omega) (by omega) (by omega) (by omega) (by omega) (ti1370.1) (by omega) (by omega) (CLe_len pr1358 (by have := ti1370.2; omega)) pr1356 pr1357 (fun h1 d2 h2 => hX h1 d2 (by omega))) (cqI ?_)
          rintro v1408 M1390 ⟨hP1391, hQ1392, h1409, h1410, h1394, h1395, h1396, h1397, h1398, h1399, h1400, h1401, h1402, h1403, xh1404, pr1405, pr1406, pr1407⟩
          have hF1393 : Fr fm_n7166_6 M0 M1390 := hF1343.tr hQ1392 rfl
          have pr1411 : OCe M1390 M0 := OCe_tr pr1407 pr1359
          obtain ⟨v1412, e1413⟩ : ∃ v, M1390 9 3 = v := ⟨_, rfl⟩
          have h1414 := (bf_9_3 hP1391).1; rw [e1413] at h1414
          have h1415 := (bf_9_3 hP1391).2; rw [e1413] at h1415
          obtain ⟨v1416, e1417⟩ : ∃ v, M1390 9 2 = v := ⟨_, rfl⟩
          have h1418 := (bf_9_2 hP1391).1; rw [e1417] at h1418
          have h1419 := (bf_9_2 hP1391).2; rw [e1417] at h1419
          obtain ⟨v1420, e1421⟩ : ∃ v, M1390 6 4 = v := ⟨_, rfl⟩
          have h1422 := (bf_6_4 hP1391).1; rw [e1421] at h1422
          have h1423 := (bf_6_4 hP1391).2; rw [e1421] at h1423
          obtain ⟨v1424, e1425⟩ : ∃ v, M1390 6 5 = v := ⟨_, rfl⟩
          have h1426 := (bf_6_5 hP1391).1; rw [e1425] at h1426
          have h1427 := (bf_6_5 hP1391).2; rw [e1425] at h1427
          refine wk_is3 r166_66 rfl (wk_il3 r166_67 ?_)
          refine wk_ifeq r166_68 ⟨by omega, by omega⟩ ?_ ?_
          · intro h1428
            clear h1400 h1401 h1402 h1403
            refine wk_c1 r166_90 ?_
            subst hQ; exact wk_zret r166_91 (by decide) (⟨rfl, _, rfl, hP1391, hF1393, by omega, by omega, by have := e1413; omega, by have := e1413; omega, by have := e1417; omega, by have := e1417; have := e1413; omega, by have := e1421; omega, by have := e1425; omega, by omega, by omega, by omega, by omega, Or.inr ⟨by omega, by rw [e1425, e1421]; exact F_k (or_r xh1404 (by omega)) (by omega) (by omega)⟩, pr1405, pr1406, pr1411⟩)
          · intro h1429
            replace h1400 := h1400 (z1_of h1409 h1410 h1429)
            replace h1401 := h1401 (z1_of h1409 h1410 h1429)
            replace h1402 := h1402 (z1_of h1409 h1410 h1429)
            replace h1403 := h1403 (z1_of h1409 h1410 h1429)
            have r3 := or_l xh1404 (by omega); rw [e1413, (pr1358).2] at r3
            have hlen := XN_len r3
            have pr1430 : CLe M1390 (CLm M1390) := ⟨pcE hP1391, rfl⟩
            refine wk_il2 r166_71 (wk_c1 r166_72 (wk_iandc 1 2 r166_73 ⟨rfl, by decide⟩ rfl ?_))
            refine wk_ifeq r166_74 ⟨by omega, by omega⟩ ?_ ?_
            · intro h1432
              refine wk_c1 r166_86 (wk_goto r166_87 ?_)
              subst hQ; exact wk_zret r166_91 (by decide) (⟨rfl, _, rfl, hP1391, hF1393, by omega, by omega, by have := e1413; omega, by have := e1413; omega, by have := e1417; omega, by have := e1417; have := e1413; omega, by have := e1421; omega, by have := e1425; omega, by have := e1421; omega, by have := e1421; omega, by have := e1425; omega, by have := e1425; omega, Or.inl ⟨by omega, by rw [e1413]; exact XN_neg (j := (v1338).toNat) r3 xp1 (Or.inr ⟨by omega, (pr1430).2⟩) (Int.le_refl _) (by have := ti1370.2; omega)⟩, pr1405, pr1406, pr1411⟩)
            · intro h1433
              exfalso
              omega
        · intro h1434
          refine wk_al0 r166_53 (wk_il1 r166_54 ?_)
          refine wk_cv2 r166_55 kc_6_168 rfl (n7168_6 _ M1341 p1 x9_1 v1344 v1348 x6_4 x6_5 x6_3 T c0 z0 o ((ntw (v1338).toNat w)) 14 hP1342 (by first | with_reducible assumption | omega) (by first | with_reducible assumption | omega) e1352 (by first | with_reducible assumption | omega) (by first | with_reducible assumption | omega) e1347 (by first | with_reducible assumption | omega) (by first | with_reducible assumption | omega) e1351 (by first | with_reducible assumption | omega) (by first | with_reducible assumption | omega) e1353 (by first | with_reducible assumption | omega) (by first | with_reducible assumption | omega) e1354 (by first | with_reducible assumption | omega) (by first | with_reducible assumption | omega) e1355 (by first | with_reducible assumption | omega) (by first | with_reducible assumption | omega) (by omega) (by omega) (by omega) (by omega) (PXx_p ti1370.1 (by omega)) (by decide) (CLe_len pr1358 (by have := ti1370.2; omega)) pr1356 pr1357 (fun h1 d2 h2 => hX h1 d2 (by omega))) (cqI ?_)
          rintro v1453 M1435 ⟨hP1436, hQ1437, h1454, h1455, h1439, h1440, h1441, h1442, h1443, h1444, h1445, h1446, h1447, h1448, xh1449, pr1450, pr1451, pr1452⟩
          have hF1438 : Fr fm_n7166_6 M0 M1435 := hF1343.tr hQ1437 rfl
          have pr1456 : OCe M1435 M0 := OCe_tr pr1452 pr1359
          obtain ⟨v1457, e1458⟩ : ∃ v, M1435 9 3 = v := ⟨_, rfl⟩
          have h1459 := (bf_9_3 hP1436).1; rw [e1458] at h1459
          have h1460 := (bf_9_3 hP1436).2; rw [e1458] at h1460
          obtain ⟨v1461, e1462⟩ : ∃ v, M1435 9 2 = v := ⟨_, rfl⟩
          have h1463 := (bf_9_2 hP1436).1; rw [e1462] at h1463
          have h1464 := (bf_9_2 hP1436).2; rw [e1462] at h1464
          obtain ⟨v1465, e1466⟩ : ∃ v, M1435 6 4 = v := ⟨_, rfl⟩
          have h1467 := (bf_6_4 hP1436).1; rw [e1466] at h1467
          have h1468 := (bf_6_4 hP1436).2; rw [e1466] at h1468
          obtain ⟨v1469, e1470⟩ : ∃ v, M1435 6 5 = v := ⟨_, rfl⟩
          have h1471 := (bf_6_5 hP1436).1; rw [e1470] at h1471
          have h1472 := (bf_6_5 hP1436).2; rw [e1470] at h1472
          refine wk_goto r166_58 ?_
          refine wk_is3 r166_66 rfl (wk_il3 r166_67 ?_)
          refine wk_ifeq r166_68 ⟨by omega, by omega⟩ ?_ ?_
          · intro h1473
            clear h1445 h1446 h1447 h1448
            refine wk_c1 r166_90 ?_
            subst hQ; exact wk_zret r166_91 (by decide) (⟨rfl, _, rfl, hP1436, hF1438, by omega, by omega, by have := e1458; omega, by have := e1458; omega, by have := e1462; omega, by have := e1462; have := e1458; omega, by have := e1466; omega, by have := e1470; omega, by omega, by omega, by omega, by omega, Or.inr ⟨by omega, by rw [e1470, e1466]; exact F_k (or_r xh1449 (by omega)) (by omega) (by omega)⟩, pr1450, pr1451, pr1456⟩)
          · intro h1474
            replace h1445 := h1445 (z1_of h1454 h1455 h1474)
            replace h1446 := h1446 (z1_of h1454 h1455 h1474)
            replace h1447 := h1447 (z1_of h1454 h1455 h1474)
            replace h1448 := h1448 (z1_of h1454 h1455 h1474)
            have r3 := or_l xh1449 (by omega); rw [e1458, (pr1358).2] at r3
            have r3 := XN_par r3
            have hlen := XN_len r3
            have pr1475 : CLe M1435 (CLm M1435) := ⟨pcE hP1436, rfl⟩
            refine wk_il2 r166_71 (wk_c1 r166_72 (wk_iandc 1 2 r166_73 ⟨rfl, by decide⟩ rfl ?_))
            refine wk_ifeq r166_74 ⟨by omega, by omega⟩ ?_ ?_
            · intro h1477
              refine wk_c1 r166_86 (wk_goto r166_87 ?_)
              subst hQ; exact wk_zret r166_91 (by decide) (⟨rfl, _, rfl, hP1436, hF1438, by omega, by omega, by have := e1458; omega, by have := e1458; omega, by have := e1462; omega, by have := e1462; have := e1458; omega, by have := e1466; omega, by have := e1470; omega, by have := e1466; omega, by have := e1466; omega, by have := e1470; omega, by have := e1470; omega, Or.inl ⟨by omega, by rw [e1458]; exact XN_neg (j := (v1338).toNat) r3 xp1 (Or.inr ⟨by omega, (pr1475).2⟩) (Int.le_refl _) (by have := ti1370.2; omega)⟩, pr1450, pr1451, pr1456⟩)
            · intro h1478
              exfalso
              omega
      · intro h1479
        refine wk_al0 r166_35 (wk_c1 r166_36 (wk_cv2 r166_37 kc_6_159 rfl (n7159_6 _ M1341 2 v1344 hP1342 (by decide) (by decide) e1347 (by first | with_reducible assumption | omega) (by first | with_reducible assumption | omega)) (cqI ?_)))
        rintro v1488 M1480 ⟨hP1481, hQ1482, h1489, h1490, h1484, h1485, h1486, h1487⟩
        have hF1483 : Fr fm_n7166_6 M0 M1480 := hF1343.tr hQ1482 rfl
        obtain ⟨v1491, e1492⟩ : ∃ v, M1480 6 4 = v := ⟨_, rfl⟩
        have h1493 := (bf_6_4 hP1481).1; rw [e1492] at h1493
        have h1494 := (bf_6_4 hP1481).2; rw [e1492] at h1494
        obtain ⟨v1495, e1496⟩ : ∃ v, M1480 6 5 = v := ⟨_, rfl⟩
        have h1497 := (bf_6_5 hP1481).1; rw [e1496] at h1497
        have h1498 := (bf_6_5 hP1481).2; rw [e1496] at h1498
        subst hQ; exact wk_zret r166_40 ⟨by omega, by omega⟩ (⟨rfl, _, rfl, hP1481, hF1483, by omega, by omega, by have := ((hQ1482.at g_9_3 rfl).trans e1347); omega, by have := ((hQ1482.at g_9_3 rfl).trans e1347); omega, by have := ((hQ1482.at g_9_2 rfl).trans e1351); omega, by have := ((hQ1482.at g_9_2 rfl).trans e1351); have := ((hQ1482.at g_9_3 rfl).trans e1347); omega, by have := e1492; omega, by have := e1496; omega, by omega, by omega, by omega, by omega, Or.inr ⟨by omega, by rw [e1496, e1492]; exact O_6 ti1370.1.r (by omega) (by omega) (by omega) (by omega)⟩, (TXP_sm (Sm.fr hQ1482 rfl) pr1356), (TCP_sm (Sm.fr hQ1482 rfl) pr1357), (OCe_sm (Sm.fr hQ1482 rfl) pr1359)⟩)
    · intro h1499
      refine wk_al0 r166_8 (wk_c8 r166_9 (wk_cv2 r166_11 kc_6_175 rfl (n7175_6 _ M1341 4119 x9_1 v1344 v1348 T hP1342 (by decide) e1352 (by first | with_reducible assumption | omega) (by first | with_reducible assumption | omega) e1347 (by first | with_reducible assumption | omega) (by first | with_reducible assumption | omega) e1351 (by first | with_reducible assumption | omega) (by first | with_reducible assumption | omega) (by omega) (by omega) (by omega) (by first | assumption | omega | (unfold stepok; omega)) pr1356 pr1357) (cqI ?_)))
      rintro v1512 M1500 ⟨hP1501, hQ1502, h1513, h1514, h1504, h1505, h1506, h1507, h1508, xh1509, pr1510, pr1511⟩
      have hF1503 : Fr fm_n7166_6 M0 M1500 := hF1343.tr hQ1502 rfl
      obtain ⟨v1515, e1516⟩ : ∃ v, M1500 9 3 = v := ⟨_, rfl⟩
      have h1517 := (bf_9_3 hP1501).1; rw [e1516] at h1517
      have h1518 := (bf_9_3 hP1501).2; rw [e1516] at h1518
      obtain ⟨v1519, e1520⟩ : ∃ v, M1500 9 2 = v := ⟨_, rfl⟩
      have h1521 := (bf_9_2 hP1501).1; rw [e1520] at h1521
      have h1522 := (bf_9_2 hP1501).2; rw [e1520] at h1522
      rw [show wix 4119 = 14 from rfl] at xh1509
      refine wk_ifeq r166_14 ⟨by omega, by omega⟩ ?_ ?_
      · intro h1523
        clear h1508
        obtain rfl : v1344 = v1515 := by omega
        obtain rfl : v1348 = v1519 := by omega
        refine wk_al0 r166_23 (wk_getfr r166_24 fd_6_0 (br_6_0 hP1501) (wk_c8 r166_27 (wk_cv2 r166_29 kc_9_239 rfl (n7239_9 _ M1500 4119 x9_1 v1344 T hP1501 (by decide) ((hQ1502.at g_9_1 rfl).trans e1352) (by first | with_reducible assumption | omega) (by first | with_reducible assumption | omega) e1516 (by first | with_reducible assumption | omega) (by first | with_reducible assumption | omega) (by first | assumption | omega | (unfold stepok; omega)) pr1510 pr1511) (cqI ?_))))
        rintro v1529 M1524 ⟨hP1525, hQ1526, h1530, h1531, xh1528⟩
        obtain rfl := Fr.same hQ1526
        rw [show wix 4119 = 14 from rfl] at xh1528
        refine wk_ifeq r166_32 ⟨by omega, by omega⟩ ?_ ?_
        · intro h1532
          refine wk_al0 r166_41 (wk_getfr r166_42 fd_6_0 (br_6_0 hP1501) (wk_c2 r166_45 (wk_cv2 r166_47 kc_9_238 rfl (n7238_9 _ M1500 40 x9_1 v1344 T hP1501 (by decide) (by decide) ((hQ1502.at g_9_1 rfl).trans e1352) (by first | with_reducible assumption | omega) (by first | with_reducible assumption | omega) e1516 (by first | with_reducible assumption | omega) (by first | with_reducible assumption | omega) pr1510 pr1511) (cqI ?_))))
          rintro v1538 M1533 ⟨hP1534, hQ1535, h1539, h1540, xh1537⟩
          obtain rfl := Fr.same hQ1535
          refine wk_ifeq r166_50 ⟨by omega, by omega⟩ ?_ ?_
          · intro h1541
            refine wk_al0 r166_61 (wk_il1 r166_62 ?_)
            refine wk_cv2 r166_63 kc_6_153 rfl (n7153_6 _ M1500 p1 x9_1 v1344 v1348 x6_4 x6_5 x6_3 T c0 z0 o ((ntw (v1338).toNat w)) v1338 hP1501 (by first | with_reducible assumption | omega) (by first | with_reducible assumption | omega) ((hQ1502.at g_9_1 rfl).trans e1352) (by first | with_reducible assumption | omega) (by first | with_reducible assumption | omega) e1516 (by first | with_reducible assumption | omega) (by first | with_reducible assumption | omega) e1520 (by first | with_reducible assumption | omega) (by first | with_reducible assumption | omega) ((hQ1502.at g_6_4 rfl).trans e1353) (by first | with_reducible assumption | omega) (by first | with_reducible assumption | omega) ((hQ1502.at g_6_5 rfl).trans e1354) (by first | with_reducible assumption | omega) (by first | with_reducible assumption | omega) ((hQ1502.at g_6_3 rfl).trans e1355) (by first | with_reducible assumption | omega) (by first | with_reducible assumption | omega) (by omega) (by omega) (by omega) (by omega) (ti1370.1) (by omega) (by omega) (CLe_len (CLe_sm (Sm.fr hQ1502 rfl) pr1358) (by have := ti1370.2; omega)) pr1510 pr1511 (fun h1 d2 h2 => hX h1 d2 (by omega))) (cqI ?_)
            rintro v1560 M1542 ⟨hP1543, hQ1544, h1561, h1562, h1546, h1547, h1548, h1549, h1550, h1551, h1552, h1553, h1554, h1555, xh1556, pr1557, pr1558, pr1559⟩
            have hF1545 : Fr fm_n7166_6 M0 M1542 := hF1503.tr hQ1544 rfl
            have pr1563 : OCe M1542 M0 := OCe_tr pr1559 (OCe_sm (Sm.fr hQ1502 rfl) pr1359)
            obtain ⟨v1564, e1565⟩ : ∃ v, M1542 9 3 = v := ⟨_, rfl⟩
            have h1566 := (bf_9_3 hP1543).1; rw [e1565] at h1566
            have h1567 := (bf_9_3 hP1543).2; rw [e1565] at h1567
            obtain ⟨v1568, e1569⟩ : ∃ v, M1542 9 2 = v := ⟨_, rfl⟩
            have h1570 := (bf_9_2 hP1543).1; rw [e1569] at h1570
            have h1571 := (bf_9_2 hP1543).2; rw [e1569] at h1571
            obtain ⟨v1572, e1573⟩ : ∃ v, M1542 6 4 = v := ⟨_, rfl⟩
            have h1574 := (bf_6_4 hP1543).1; rw [e1573] at h1574
            have h1575 := (bf_6_4 hP1543).2; rw [e1573] at h1575
            obtain ⟨v1576, e1577⟩ : ∃ v, M1542 6 5 = v := ⟨_, rfl⟩
            have h1578 := (bf_6_5 hP1543).1; rw [e1577] at h1578
            have h1579 := (bf_6_5 hP1543).2; rw [e1577] at h1579
            refine wk_is3 r166_66 rfl (wk_il3 r166_67 ?_)
            refine wk_ifeq r166_68 ⟨by omega, by omega⟩ ?_ ?_
            · intro h1580
              clear h1552 h1553 h1554 h1555
              refine wk_c1 r166_90 ?_
              subst hQ; exact wk_zret r166_91 (by decide) (⟨rfl, _, rfl, hP1543, hF1545, by omega, by omega, by have := e1565; omega, by have := e1565; omega, by have := e1569; omega, by have := e1569; have := e1565; omega, by have := e1573; omega, by have := e1577; omega, by omega, by omega, by omega, by omega, Or.inr ⟨by omega, by rw [e1577, e1573]; exact F_k (or_r xh1556 (by omega)) (by omega) (by omega)⟩, pr1557, pr1558, pr1563⟩)
            · intro h1581
              replace h1552 := h1552 (z1_of h1561 h1562 h1581)
              replace h1553 := h1553 (z1_of h1561 h1562 h1581)
              replace h1554 := h1554 (z1_of h1561 h1562 h1581)
              replace h1555 := h1555 (z1_of h1561 h1562 h1581)
              have r3 := or_l xh1556 (by omega); rw [e1565, ((CLe_sm (Sm.fr hQ1502 rfl) pr1358)).2] at r3
              have hlen := XN_len r3
              have pr1582 : CLe M1542 (CLm M1542) := ⟨pcE hP1543, rfl⟩
              refine wk_il2 r166_71 (wk_c1 r166_72 (wk_iandc 1 2 r166_73 ⟨rfl, by decide⟩ rfl ?_))
              refine wk_ifeq r166_74 ⟨by omega, by omega⟩ ?_ ?_
              · intro h1584
                refine wk_c1 r166_86 (wk_goto r166_87 ?_)
                subst hQ; exact wk_zret r166_91 (by decide) (⟨rfl, _, rfl, hP1543, hF1545, by omega, by omega, by have := e1565; omega, by have := e1565; omega, by have := e1569; omega, by have := e1569; have := e1565; omega, by have := e1573; omega, by have := e1577; omega, by have := e1573; omega, by have := e1573; omega, by have := e1577; omega, by have := e1577; omega, Or.inl ⟨by omega, by rw [e1565]; exact XN_neg (j := (v1338).toNat) r3 xp1 (Or.inr ⟨by omega, (pr1582).2⟩) (Int.le_refl _) (by have := ti1370.2; omega)⟩, pr1557, pr1558, pr1563⟩)
              · intro h1585
                refine wk_al0 r166_77 (wk_c1 r166_78 (wk_c1 r166_79 (wk_cv3 r166_80 kc_6_172 rfl (n7172_6 _ M1542 1 0 hP1543 (by decide) (by decide) (by decide) (by decide) (by first | assumption | omega | (unfold stepok; omega))) (cqI ?_))))
                rintro v1592 M1586 ⟨hP1587, hQ1588, h1593, h1594, xh1590, pr1591⟩
                have hF1589 : Fr fm_n7166_6 M0 M1586 := hF1545.tr hQ1588 rfl
                have pr1595 : OCe M1586 M0 := OCe_tr pr1591 pr1563
                have pr1596 : CLe M1586 (CLm M1542 ++ [1]) := xh1590 _ pr1582 (by have := ti1370.2; omega)
                refine wk_ifeq r166_83 ⟨by omega, by omega⟩ ?_ ?_
                · intro h1597
                  exfalso
                  omega
                · intro h1598
                  refine wk_c1 r166_86 (wk_goto r166_87 ?_)
                  subst hQ; exact wk_zret r166_91 (by decide) (⟨rfl, _, rfl, hP1587, hF1589, by omega, by omega, by have := ((hQ1588.at g_9_3 rfl).trans e1565); omega, by have := ((hQ1588.at g_9_3 rfl).trans e1565); omega, by have := ((hQ1588.at g_9_2 rfl).trans e1569); omega, by have := ((hQ1588.at g_9_2 rfl).trans e1569); have := ((hQ1588.at g_9_3 rfl).trans e1565); omega, by have := ((hQ1588.at g_6_4 rfl).trans e1573); omega, by have := ((hQ1588.at g_6_5 rfl).trans e1577); omega, by have := ((hQ1588.at g_6_4 rfl).trans e1573); omega, by have := ((hQ1588.at g_6_4 rfl).trans e1573); omega, by have := ((hQ1588.at g_6_5 rfl).trans e1577); omega, by have := ((hQ1588.at g_6_5 rfl).trans e1577); omega, Or.inl ⟨by omega, by rw [((hQ1588.at g_9_3 rfl).trans e1565)]; exact XN_neg (j := (v1338).toNat) r3 xp1 (Or.inl ⟨by omega, (pr1596).2⟩) (Int.le_refl _) (by have := ti1370.2; omega)⟩, (TXP_sm (Sm.fr hQ1588 rfl) pr1557), (TCP_sm (Sm.fr hQ1588 rfl) pr1558), pr1595⟩)
          · intro h1599
            refine wk_al0 r166_53 (wk_il1 r166_54 ?_)
            refine wk_cv2 r166_55 kc_6_168 rfl (n7168_6 _ M1500 p1 x9_1 v1344 v1348 x6_4 x6_5 x6_3 T c0 z0 o ((ntw (v1338).toNat w)) 14 hP1501 (by first | with_reducible assumption | omega) (by first | with_reducible assumption | omega) ((hQ1502.at g_9_1 rfl).trans e1352) (by first | with_reducible assumption | omega) (by first | with_reducible assumption | omega) e1516 (by first | with_reducible assumption | omega) (by first | with_reducible assumption | omega) e1520 (by first | with_reducible assumption | omega) (by first | with_reducible assumption | omega) ((hQ1502.at g_6_4 rfl).trans e1353) (by first | with_reducible assumption | omega) (by first | with_reducible assumption | omega) ((hQ1502.at g_6_5 rfl).trans e1354) (by first | with_reducible assumption | omega) (by first | with_reducible assumption | omega) ((hQ1502.at g_6_3 rfl).trans e1355) (by first | with_reducible assumption | omega) (by first | with_reducible assumption | omega) (by omega) (by omega) (by omega) (by omega) (PXx_p ti1370.1 (by omega)) (by decide) (CLe_len (CLe_sm (Sm.fr hQ1502 rfl) pr1358) (by have := ti1370.2; omega)) pr1510 pr1511 (fun h1 d2 h2 => hX h1 d2 (by omega))) (cqI ?_)
            rintro v1618 M1600 ⟨hP1601, hQ1602, h1619, h1620, h1604, h1605, h1606, h1607, h1608, h1609, h1610, h1611, h1612, h1613, xh1614, pr1615, pr1616, pr1617⟩
            have hF1603 : Fr fm_n7166_6 M0 M1600 := hF1503.tr hQ1602 rfl
            have pr1621 : OCe M1600 M0 := OCe_tr pr1617 (OCe_sm (Sm.fr hQ1502 rfl) pr1359)
            obtain ⟨v1622, e1623⟩ : ∃ v, M1600 9 3 = v := ⟨_, rfl⟩
            have h1624 := (bf_9_3 hP1601).1; rw [e1623] at h1624
            have h1625 := (bf_9_3 hP1601).2; rw [e1623] at h1625
            obtain ⟨v1626, e1627⟩ : ∃ v, M1600 9 2 = v := ⟨_, rfl⟩
            have h1628 := (bf_9_2 hP1601).1; rw [e1627] at h1628
            have h1629 := (bf_9_2 hP1601).2; rw [e1627] at h1629
            obtain ⟨v1630, e1631⟩ : ∃ v, M1600 6 4 = v := ⟨_, rfl⟩
            have h1632 := (bf_6_4 hP1601).1; rw [e1631] at h1632
            have h1633 := (bf_6_4 hP1601).2; rw [e1631] at h1633
            obtain ⟨v1634, e1635⟩ : ∃ v, M1600 6 5 = v := ⟨_, rfl⟩
            have h1636 := (bf_6_5 hP1601).1; rw [e1635] at h1636
            have h1637 := (bf_6_5 hP1601).2; rw [e1635] at h1637
            refine wk_goto r166_58 ?_
            refine wk_is3 r166_66 rfl (wk_il3 r166_67 ?_)
            refine wk_ifeq r166_68 ⟨by omega, by omega⟩ ?_ ?_
            · intro h1638
              clear h1610 h1611 h1612 h1613
              refine wk_c1 r166_90 ?_
              subst hQ; exact wk_zret r166_91 (by decide) (⟨rfl, _, rfl, hP1601, hF1603, by omega, by omega, by have := e1623; omega, by have := e1623; omega, by have := e1627; omega, by have := e1627; have := e1623; omega, by have := e1631; omega, by have := e1635; omega, by omega, by omega, by omega, by omega, Or.inr ⟨by omega, by rw [e1635, e1631]; exact F_k (or_r xh1614 (by omega)) (by omega) (by omega)⟩, pr1615, pr1616, pr1621⟩)
            · intro h1639
              replace h1610 := h1610 (z1_of h1619 h1620 h1639)
              replace h1611 := h1611 (z1_of h1619 h1620 h1639)
              replace h1612 := h1612 (z1_of h1619 h1620 h1639)
              replace h1613 := h1613 (z1_of h1619 h1620 h1639)
              have r3 := or_l xh1614 (by omega); rw [e1623, ((CLe_sm (Sm.fr hQ1502 rfl) pr1358)).2] at r3
              have r3 := XN_par r3
              have hlen := XN_len r3
              have pr1640 : CLe M1600 (CLm M1600) := ⟨pcE hP1601, rfl⟩
              refine wk_il2 r166_71 (wk_c1 r166_72 (wk_iandc 1 2 r166_73 ⟨rfl, by decide⟩ rfl ?_))
              refine wk_ifeq r166_74 ⟨by omega, by omega⟩ ?_ ?_
              · intro h1642
                refine wk_c1 r166_86 (wk_goto r166_87 ?_)
                subst hQ; exact wk_zret r166_91 (by decide) (⟨rfl, _, rfl, hP1601, hF1603, by omega, by omega, by have := e1623; omega, by have := e1623; omega, by have := e1627; omega, by have := e1627; have := e1623; omega, by have := e1631; omega, by have := e1635; omega, by have := e1631; omega, by have := e1631; omega, by have := e1635; omega, by have := e1635; omega, Or.inl ⟨by omega, by rw [e1623]; exact XN_neg (j := (v1338).toNat) r3 xp1 (Or.inr ⟨by omega, (pr1640).2⟩) (Int.le_refl _) (by have := ti1370.2; omega)⟩, pr1615, pr1616, pr1621⟩)
              · intro h1643
                refine wk_al0 r166_77 (wk_c1 r166_78 (wk_c1 r166_79 (wk_cv3 r166_80 kc_6_172 rfl (n7172_6 _ M1600 1 0 hP1601 (by decide) (by decide) (by decide) (by decide) (by first | assumption | omega | (unfold stepok; omega))) (cqI ?_))))
                rintro v1650 M1644 ⟨hP1645, hQ1646, h1651, h1652, xh1648, pr1649⟩
                have hF1647 : Fr fm_n7166_6 M0 M1644 := hF1603.tr hQ1646 rfl
                have pr1653 : OCe M1644 M0 := OCe_tr pr1649 pr1621
                have pr1654 : CLe M1644 (CLm M1600 ++ [1]) := xh1648 _ pr1640 (by have := ti1370.2; omega)
                refine wk_ifeq r166_83 ⟨by omega, by omega⟩ ?_ ?_
                · intro h1655
                  exfalso
                  omega
                · intro h1656
                  refine wk_c1 r166_86 (wk_goto r166_87 ?_)
                  subst hQ; exact wk_zret r166_91 (by decide) (⟨rfl, _, rfl, hP1645, hF1647, by omega, by omega, by have := ((hQ1646.at g_9_3 rfl).trans e1623); omega, by have := ((hQ1646.at g_9_3 rfl).trans e1623); omega, by have := ((hQ1646.at g_9_2 rfl).trans e1627); omega, by have := ((hQ1646.at g_9_2 rfl).trans e1627); have := ((hQ1646.at g_9_3 rfl).trans e1623); omega, by have := ((hQ1646.at g_6_4 rfl).trans e1631); omega, by have := ((hQ1646.at g_6_5 rfl).trans e1635); omega, by have := ((hQ1646.at g_6_4 rfl).trans e1631); omega, by have := ((hQ1646.at g_6_4 rfl).trans e1631); omega, by have := ((hQ1646.at g_6_5 rfl).trans e1635); omega, by have := ((hQ1646.at g_6_5 rfl).trans e1635); omega, Or.inl ⟨by omega, by rw [((hQ1646.at g_9_3 rfl).trans e1623)]; exact XN_neg (j := (v1338).toNat) r3 xp1 (Or.inl ⟨by omega, (pr1654).2⟩) (Int.le_refl _) (by have := ti1370.2; omega)⟩, (TXP_sm (Sm.fr hQ1646 rfl) pr1615), (TCP_sm (Sm.fr hQ1646 rfl) pr1616), pr1653⟩)
        · intro h1657
          refine wk_al0 r166_35 (wk_c1 r166_36 (wk_cv2 r166_37 kc_6_159 rfl (n7159_6 _ M1500 2 v1344 hP1501 (by decide) (by decide) e1516 (by first | with_reducible assumption | omega) (by first | with_reducible assumption | omega)) (cqI ?_)))
          rintro v1666 M1658 ⟨hP1659, hQ1660, h1667, h1668, h1662, h1663, h1664, h1665⟩
          have hF1661 : Fr fm_n7166_6 M0 M1658 := hF1503.tr hQ1660 rfl
          obtain ⟨v1669, e1670⟩ : ∃ v, M1658 6 4 = v := ⟨_, rfl⟩
          have h1671 := (bf_6_4 hP1659).1; rw [e1670] at h1671
          have h1672 := (bf_6_4 hP1659).2; rw [e1670] at h1672
          obtain ⟨v1673, e1674⟩ : ∃ v, M1658 6 5 = v := ⟨_, rfl⟩
          have h1675 := (bf_6_5 hP1659).1; rw [e1674] at h1675
          have h1676 := (bf_6_5 hP1659).2; rw [e1674] at h1676
          subst hQ; exact wk_zret r166_40 ⟨by omega, by omega⟩ (⟨rfl, _, rfl, hP1659, hF1661, by omega, by omega, by have := ((hQ1660.at g_9_3 rfl).trans e1516); omega, by have := ((hQ1660.at g_9_3 rfl).trans e1516); omega, by have := ((hQ1660.at g_9_2 rfl).trans e1520); omega, by have := ((hQ1660.at g_9_2 rfl).trans e1520); have := ((hQ1660.at g_9_3 rfl).trans e1516); omega, by have := e1670; omega, by have := e1674; omega, by omega, by omega, by omega, by omega, Or.inr ⟨by omega, by rw [e1674, e1670]; exact O_6 ti1370.1.r (by omega) (by omega) (by omega) (by omega)⟩, (TXP_sm (Sm.fr hQ1660 rfl) pr1510), (TCP_sm (Sm.fr hQ1660 rfl) pr1511), (OCe_sm (Sm.fr hQ1660 rfl) (OCe_sm (Sm.fr hQ1502 rfl) pr1359))⟩)
      · intro h1677
        replace h1508 := h1508 (z1_of h1513 h1514 h1677)
        refine wk_inc2 r166_17 rfl (wk_goto r166_20 ?_)
        exact wp_fg (le_s (le_s (le_s (le_s le_0)))) (ih1678 (6 - (v1338 + 1)).toNat (by omega) M1500 (v1338 + 1) v1515 v1519 rfl hP1501 hF1503 e1516 e1520 ((hQ1502.at g_9_1 rfl).trans e1352) ((hQ1502.at g_6_4 rfl).trans e1353) ((hQ1502.at g_6_5 rfl).trans e1354) ((hQ1502.at g_6_3 rfl).trans e1355) (by first | with_reducible assumption | omega) (by first | with_reducible assumption | omega) (by first | with_reducible assumption | omega) (by first | with_reducible assumption | omega) (by first | with_reducible assumption | omega) (by first | with_reducible assumption | omega) pr1510 pr1511 (CLe_sm (Sm.fr hQ1502 rfl) pr1358) (OCe_sm (Sm.fr hQ1502 rfl) pr1359) (by first | with_reducible assumption | omega) (by first | with_reducible assumption | omega) (by first | with_reducible assumption | omega) (by first | with_reducible assumption | omega) (by first | with_reducible assumption | omega) (by first | with_reducible assumption | omega) (by first | with_reducible assumption | omega) (by first | with_reducible assumption | omega) (by first | with_reducible assumption | omega) (by first | with_reducible assumption | omega) (⟨by rw [ntw_t (by omega)]; exact yO_n ti1370.1 (by omega) (by omega) (by omega) rfl, Or.inr (by have := kw_2 (T := T) (n := x9_1) (s := v1344) (by omega); have := ti1370.2; omega)⟩))
  exact wp_fg (le_s (le_s (le_s (le_s le_0)))) (c2_1678 _ M0 0 x9_3 x9_2 rfl hP0 hF0 ex9_3 ex9_2 ex9_1 ex6_4 ex6_5 ex6_3 (by first | with_reducible assumption | omega) (by first | with_reducible assumption | omega) (by first | with_reducible assumption | omega) (by first | with_reducible assumption | omega) (by first | with_reducible assumption | omega) (by first | with_reducible assumption | omega) pp_TX pp_TC hCe hOe (by first | with_reducible assumption | omega) (by first | with_reducible assumption | omega) (by first | with_reducible assumption | omega) (by first | with_reducible assumption | omega) (by first | with_reducible assumption | omega) (by first | with_reducible assumption | omega) (by first | with_reducible assumption | omega) (by first | with_reducible assumption | omega) (by first | with_reducible assumption | omega) (by first | with_reducible assumption | omega) (⟨xp0, Or.inl ⟨rfl, rfl⟩⟩))
def fm_n7157_6 : Nat := 3941070043873280
set_option maxHeartbeats 20000000 in
/-- IslandHall$Parser.conjunction -/
theorem n7157_6 {B : eB} (d : Nat) (M0 : Mm) (p1 : Int) (x9_1 : Int) (x9_3 : Int) (x9_2 : Int) (x6_4 : Int) (x6_5 : Int) (x6_3 : Int) (T : Int → Int) (c0 : Cg) (z0 : Og) (o : List Int) (w : List Int) (hP0 : Pw M0) (l1 : 0 ≤ p1) (u1 : p1 ≤ 5) (ex9_1 : M0 9 1 = x9_1) (lx9_1 : 0 ≤ x9_1) (ux9_1 : x9_1 ≤ 500) (ex9_3 : M0 9 3 = x9_3) (lx9_3 : 0 ≤ x9_3) (ux9_3 : x9_3 ≤ 500) (ex9_2 : M0 9 2 = x9_2) (lx9_2 : 0 ≤ x9_2) (ux9_2 : x9_2 ≤ 500) (ex6_4 : M0 6 4 = x6_4) (lx6_4 : 0 ≤ x6_4) (ux6_4 : x6_4 ≤ 6) (ex6_5 : M0 6 5 = x6_5) (lx6_5 : (-1) ≤ x6_5) (ux6_5 : x6_5 ≤ 500) (ex6_3 : M0 6 3 = x6_3) (lx6_3 : (-1) ≤ x6_3) (ux6_3 : x6_3 ≤ 7) (rp0 : 0 ≤ x9_1 + (-1) * x9_2) (rp1 : 0 ≤ x9_2 + (-1) * x9_3) (rp2 : 0 ≤ x9_1 + (-1) * x9_3) (rp3 : 0 ≤ (-1) * x6_3 + 7) (xp0 : RQ T x9_1 x6_3 (c0, z0) ((1, p1 + 1, x9_3, 0), (o, w))) (xp1 : fix 2 w) (xp2 : 2 * ((CLm M0).length : Int) ≤ x9_3 + 2) (pp_TX : TXP T M0) (pp_TC : TCP T M0) (hX : p1 ≤ 5 → ∀ d2 : Nat, d ≤ d2 → ∀ (M0 : Mm) (x9_1 : Int) (x9_3 : Int) (x9_2 : Int) (x6_4 : Int) (x6_5 : Int) (x6_3 : Int) (T : Int → Int) (c0 : Cg) (z0 : Og) (o : List Int) (w : List Int) (hP0 : Pw M0) (ex9_1 : M0 9 1 = x9_1) (lx9_1 : 0 ≤ x9_1) (ux9_1 : x9_1 ≤ 500) (ex9_3 : M0 9 3 = x9_3) (lx9_3 : 0 ≤ x9_3) (ux9_3 : x9_3 ≤ 500) (ex9_2 : M0 9 2 = x9_2) (lx9_2 : 0 ≤ x9_2) (ux9_2 : x9_2 ≤ 500) (ex6_4 : M0 6 4 = x6_4) (lx6_4 : 0 ≤ x6_4) (ux6_4 : x6_4 ≤ 6) (ex6_5 : M0 6 5 = x6_5) (lx6_5 : (-1) ≤ x6_5) (ux6_5 : x6_5 ≤ 500) (ex6_3 : M0 6 3 = x6_3) (lx6_3 : (-1) ≤ x6_3) (ux6_3 : x6_3 ≤ 7) (rp0 : 0 ≤ x9_1 + (-1) * x9_2) (rp1 : 0 ≤ x9_2 + (-1) * x9_3) (rp2 : 0 ≤ x9_1 + (-1) * x9_3) (rp3 : 0 ≤ (-1) * x6_3 + 7) (xp0 : RQ T x9_1 x6_3 (c0, z0) ((0, (p1 + 1), x9_3, 0), (o, w))) (xp1 : fix 1 w) (xp2 : 2 * ((CLm M0).length : Int) ≤ x9_3 + 2) (pp_TX : TXP T M0) (pp_TC : TCP T M0), Ct B (d2 + 20) 158 [R 6, I (p1 + 1)] M0 (qI fun z M => Pw M ∧ Fr fm_n7158_6E M0 M ∧ 0 ≤ z ∧ z ≤ 1 ∧ 0 ≤ M 9 3 + (-1) * x9_3 ∧ 0 ≤ x9_1 + (-1) * (M 9 3) ∧ 0 ≤ x9_1 + (-1) * (M 9 2) ∧ 0 ≤ M 9 2 + (-1) * (M 9 3) ∧ 0 ≤ M 6 4 ∧ 0 ≤ M 6 5 + 1 ∧ (z = 1 → 0 ≤ M 6 4 + (-1) * x6_4) ∧ (z = 1 → 0 ≤ (-1) * (M 6 4) + x6_4) ∧ (z = 1 → 0 ≤ M 6 5 + (-1) * x6_5) ∧ (z = 1 → 0 ≤ (-1) * (M 6 5) + x6_5) ∧ ((z = 1 ∧ XN T x9_1 x6_3 c0 z0 ((p1 + 1) + 1) (M 9 3) o w 1 (CLm M0) (CLm M) (13 - 2 * (p1 + 1)) x9_3 ∧ kw T x9_1 (M 9 3) ≠ 12 ∧ kw T x9_1 (M 9 3) ≠ 13) ∨ (z = 0 ∧ Rch T x9_1 x6_3 c0 (3, 0, M 6 5, M 6 4))) ∧ (TXP T M) ∧ (TCP T M) ∧ (OCe M M0))) : Ct B (d + 25) 157 [R 6, I p1] M0 (qI fun z M => Pw M ∧ Fr fm_n7157_6 M0 M ∧ 0 ≤ z ∧ z ≤ 1 ∧ 0 ≤ M 9 3 + (-1) * x9_3 ∧ 0 ≤ x9_1 + (-1) * (M 9 3) ∧ 0 ≤ x9_1 + (-1) * (M 9 2) ∧ 0 ≤ M 9 2 + (-1) * (M 9 3) ∧ 0 ≤ M 6 4 ∧ 0 ≤ M 6 5 + 1 ∧ (z = 1 → 0 ≤ M 6 4 + (-1) * x6_4) ∧ (z = 1 → 0 ≤ (-1) * (M 6 4) + x6_4) ∧ (z = 1 → 0 ≤ M 6 5 + (-1) * x6_5) ∧ (z = 1 → 0 ≤ (-1) * (M 6 5) + x6_5) ∧ ((z = 1 ∧ XN T x9_1 x6_3 c0 z0 (p1 + 1) (M 9 3) o w 2 (CLm M0) (CLm M) (12 - 2 * p1) x9_3 ∧ kw T x9_1 (M 9 3) ≠ 12) ∨ (z = 0 ∧ Rch T x9_1 x6_3 c0 (3, 0, M 6 5, M 6 4))) ∧ (TXP T M) ∧ (TCP T M) ∧ (OCe M M0)) := by
  refine ct_of (d := d + 24) (k := 1) (L := [some (R 6), some (I p1), none]) rfl rfl rfl ?_
  have hF0 := Fr.rf fm_n7157_6 M0
  generalize hQ : (qI fun z M => Pw M ∧ Fr fm_n7157_6 M0 M ∧ 0 ≤ z ∧ z ≤ 1 ∧ 0 ≤ M 9 3 + (-1) * x9_3 ∧ 0 ≤ x9_1 + (-1) * (M 9 3) ∧ 0 ≤ x9_1 + (-1) * (M 9 2) ∧ 0 ≤ M 9 2 + (-1) * (M 9 3) ∧ 0 ≤ M 6 4 ∧ 0 ≤ M 6 5 + 1 ∧ (z = 1 → 0 ≤ M 6 4 + (-1) * x6_4) ∧ (z = 1 → 0 ≤ (-1) * (M 6 4) + x6_4) ∧ (z = 1 → 0 ≤ M 6 5 + (-1) * x6_5) ∧ (z = 1 → 0 ≤ (-1) * (M 6 5) + x6_5) ∧ ((z = 1 ∧ XN T x9_1 x6_3 c0 z0 (p1 + 1) (M 9 3) o w 2 (CLm M0) (CLm M) (12 - 2 * p1) x9_3 ∧ kw T x9_1 (M 9 3) ≠ 12) ∨ (z = 0 ∧ Rch T x9_1 x6_3 c0 (3, 0, M 6 5, M 6 4))) ∧ (TXP T M) ∧ (TCP T M) ∧ (OCe M M0)) = Q
  have hCe : CLe M0 (CLm M0) := ⟨pcE hP0, rfl⟩
  have hOe : OCe M0 M0 := OCe_rf M0
  refine wk_al0 r157_0 (wk_il1 r157_1 (wk_cv2 r157_2 kc_6_166 rfl (n7166_6 _ M0 p1 x9_1 x9_3 x9_2 x6_4 x6_5 x6_3 T c0 z0 o w hP0 (by first | with_reducible assumption | omega) (by first | with_reducible assumption | omega) ex9_1 (by first | with_reducible assumption | omega) (by first | with_reducible assumption | omega) ex9_3 (by first | with_reducible assumption | omega) (by first | with_reducible assumption | omega) ex9_2 (by first | with_reducible assumption | omega) (by first | with_reducible assumption | omega) ex6_4 (by first | with_reducible assumption | omega) (by first | with_reducible assumption | omega) ex6_5 (by first | with_reducible assumption | omega) (by first | with_reducible assumption | omega) ex6_3 (by first | with_reducible assumption | omega) (by first | with_reducible assumption | omega) (by omega) (by omega) (by omega) (by omega) (xp0) (fix_m xp1 (by decide)) (CLe_len hCe (by omega)) pp_TX pp_TC (fun h1 d2 h2 => hX h1 d2 (by omega))) (cqI ?_)))
  rintro v19 M1 ⟨hP2, hQ3, h20, h21, h5, h6, h7, h8, h9, h10, h11, h12, h13, h14, xh15, pr16, pr17, pr18⟩
  have hF4 : Fr fm_n7157_6 M0 M1 := hF0.tr hQ3 rfl
  have pr22 : OCe M1 M0 := OCe_tr pr18 hOe
  obtain ⟨v23, e24⟩ : ∃ v, M1 9 3 = v := ⟨_, rfl⟩
  have h25 := (bf_9_3 hP2).1; rw [e24] at h25
  have h26 := (bf_9_3 hP2).2; rw [e24] at h26
  obtain ⟨v27, e28⟩ : ∃ v, M1 9 2 = v := ⟨_, rfl⟩
  have h29 := (bf_9_2 hP2).1; rw [e28] at h29
  have h30 := (bf_9_2 hP2).2; rw [e28] at h30
  obtain ⟨v31, e32⟩ : ∃ v, M1 6 4 = v := ⟨_, rfl⟩
  have h33 := (bf_6_4 hP2).1; rw [e32] at h33
  have h34 := (bf_6_4 hP2).2; rw [e32] at h34
  obtain ⟨v35, e36⟩ : ∃ v, M1 6 5 = v := ⟨_, rfl⟩
  have h37 := (bf_6_5 hP2).1; rw [e36] at h37
  have h38 := (bf_6_5 hP2).2; rw [e36] at h38
  refine wk_ifne r157_5 ⟨by omega, by omega⟩ ?_ ?_
  · intro h39
    replace h11 := h11 (z1_of h20 h21 h39)
    replace h12 := h12 (z1_of h20 h21 h39)
    replace h13 := h13 (z1_of h20 h21 h39)
    replace h14 := h14 (z1_of h20 h21 h39)
    refine wk_c1 r157_10 (wk_is2 r157_11 rfl ?_)
    have c12_1332 : ∀ (k1332 : Nat) (M1198 : Mm) (v1195 : Int) (v1201 : Int) (v1205 : Int) (v1209 : Int) (v1213 : Int), (500 - v1195).toNat = k1332 → Pw M1198 → Fr fm_n7157_6 M0 M1198 → M1198 9 3 = v1201 → M1198 9 2 = v1205 → M1198 6 4 = v1209 → M1198 6 5 = v1213 → M1198 9 1 = x9_1 → M1198 6 3 = x6_3 → 0 ≤ v1195 → v1195 ≤ 500 → 0 ≤ v1201 → v1201 ≤ 500 → 0 ≤ v1205 → v1205 ≤ 500 → 0 ≤ v1209 → v1209 ≤ 6 → (-1) ≤ v1213 → v1213 ≤ 500 → (TXP T M1198) → (TCP T M1198) → (OCe M1198 M0) → 0 ≤ 1 * v1201 + (-1) * x9_3 → 0 ≤ 1 * x9_1 + (-1) * v1201 → 0 ≤ 1 * x9_1 + (-1) * v1205 → 0 ≤ 1 * v1205 + (-1) * v1201 → 0 ≤ 1 * v1201 + (-1) * v1195 → 0 ≤ 1 * v1209 + (-1) * x6_4 → 0 ≤ (-1) * v1209 + 1 * x6_4 → 0 ≤ 1 * v1213 + (-1) * x6_5 → 0 ≤ (-1) * v1213 + 1 * x6_5 → 0 ≤ (-1) * v1195 + v1201 + 0 → 0 ≤ (-1) * v1195 + v1205 + 0 → 0 ≤ (-1) * v1201 + v1195 + 500 → 0 ≤ (-1) * v1201 + v1205 + 0 → 0 ≤ (-1) * v1201 + v1209 + 500 → 0 ≤ (-1) * v1201 + v1213 + 501 → 0 ≤ (-1) * v1205 + v1195 + 500 → 0 ≤ (-1) * v1205 + v1201 + 500 → 0 ≤ (-1) * v1205 + v1209 + 500 → 0 ≤ (-1) * v1205 + v1213 + 501 → 0 ≤ (-1) * v1209 + v1195 + 6 → 0 ≤ (-1) * v1209 + v1201 + 6 → 0 ≤ (-1) * v1209 + v1205 + 6 → 0 ≤ (-1) * v1209 + v1213 + 7 → 0 ≤ (-1) * v1213 + v1195 + 500 → 0 ≤ (-1) * v1213 + v1201 + 500 → 0 ≤ (-1) * v1213 + v1205 + 500 → 0 ≤ (-1) * v1213 + v1209 + 500 → (XN T x9_1 x6_3 c0 z0 (p1 + 1) v1201 o w 2 (CLm M0) (CLm M1198) (12 - 2 * p1) x9_3) → Wp B (d + 24) 157 12 [some (R 6), some (I p1), some (I v1195)] [] M1198 Q := by
      refine lp_ind ?_
      intro k1332 ih1332 M1198 v1195 v1201 v1205 v1209 v1213 hk1332 hP1199 hF1200 e1204 e1208 e1212 e1216 e1217 e1218 h1196 h1197 h1202 h1203 h1206 h1207 h1210 h1211 h1214 h1215 pr1219 pr1220 pr1221 h1222 h1223 h1224 h1225 h1226 h1227 h1228 h1229 h1230 h1231 h1232 h1233 h1234 h1235 h1236 h1237 h1238 h1239 h1240 h1241 h1242 h1243 h1244 h1245 h1246 h1247 h1248 ti1249
      have pr1250 : CLe M1198 (CLm M1198) := ⟨pcE hP1199, rfl⟩
      refine wk_il2 r157_12 (wk_c3 r157_13 ?_)
      refine wk_icge r157_16 ⟨by omega, by omega⟩ (by decide) ?_ ?_
      · intro h1251
        refine wk_c1 r157_53 ?_
        subst hQ; exact wk_zret r157_54 (by decide) (⟨rfl, _, rfl, hP1199, hF1200, by omega, by omega, by have := e1204; omega, by have := e1204; omega, by have := e1208; omega, by have := e1208; have := e1204; omega, by have := e1212; omega, by have := e1216; omega, by have := e1212; omega, by have := e1212; omega, by have := e1216; omega, by have := e1216; omega, Or.inl ⟨by omega, by rw [e1204]; exact ⟨XN_c ti1249 (by omega) (pr1250).2 (Int.le_refl _), by have := kw_lt (T := T) (n := x9_1) (s := v1201); omega⟩⟩, pr1219, pr1220, pr1221⟩)
      · intro h1252
        refine wk_al0 r157_19 (wk_c8 r157_20 (wk_cv2 r157_22 kc_6_175 rfl (n7175_6 _ M1198 4125 x9_1 v1201 v1205 T hP1199 (by decide) e1217 (by first | with_reducible assumption | omega) (by first | with_reducible assumption | omega) e1204 (by first | with_reducible assumption | omega) (by first | with_reducible assumption | omega) e1208 (by first | with_reducible assumption | omega) (by first | with_reducible assumption | omega) (by omega) (by omega) (by omega) (by first | assumption | omega | (unfold stepok; omega)) pr1219 pr1220) (cqI ?_)))
        rintro v1265 M1253 ⟨hP1254, hQ1255, h1266, h1267, h1257, h1258, h1259, h1260, h1261, xh1262, pr1263, pr1264⟩
        have hF1256 : Fr fm_n7157_6 M0 M1253 := hF1200.tr hQ1255 rfl
        obtain ⟨v1268, e1269⟩ : ∃ v, M1253 9 3 = v := ⟨_, rfl⟩
        have h1270 := (bf_9_3 hP1254).1; rw [e1269] at h1270
        have h1271 := (bf_9_3 hP1254).2; rw [e1269] at h1271
        obtain ⟨v1272, e1273⟩ : ∃ v, M1253 9 2 = v := ⟨_, rfl⟩
        have h1274 := (bf_9_2 hP1254).1; rw [e1273] at h1274
        have h1275 := (bf_9_2 hP1254).2; rw [e1273] at h1275
        rw [show wix 4125 = 12 from rfl] at xh1262
        refine wk_ifeq r157_25 ⟨by omega, by omega⟩ ?_ ?_
        · intro h1276
          clear h1261
          obtain rfl : v1201 = v1268 := by omega
          obtain rfl : v1205 = v1272 := by omega
          refine wk_c1 r157_53 ?_
          subst hQ; exact wk_zret r157_54 (by decide) (⟨rfl, _, rfl, hP1254, hF1256, by omega, by omega, by have := e1269; omega, by have := e1269; omega, by have := e1273; omega, by have := e1273; have := e1269; omega, by have := ((hQ1255.at g_6_4 rfl).trans e1212); omega, by have := ((hQ1255.at g_6_5 rfl).trans e1216); omega, by have := ((hQ1255.at g_6_4 rfl).trans e1212); omega, by have := ((hQ1255.at g_6_4 rfl).trans e1212); omega, by have := ((hQ1255.at g_6_5 rfl).trans e1216); omega, by have := ((hQ1255.at g_6_5 rfl).trans e1216); omega, Or.inl ⟨by omega, by rw [e1269]; exact ⟨XN_c ti1249 (by omega) ((CLe_sm (Sm.fr hQ1255 rfl) pr1250)).2 (Int.le_refl _), by have := kw_lt (T := T) (n := x9_1) (s := v1201); omega⟩⟩, pr1263, pr1264, (OCe_sm (Sm.fr hQ1255 rfl) pr1221)⟩)
        · intro h1277
          replace h1261 := h1261 (z1_of h1266 h1267 h1277)
          obtain ⟨Oa, Ca, r2, ca, ea, la⟩ := XN_oa ti1249 (by omega) (s1 := v1268) (by omega)
          have hlen := XN_len ti1249
          have hk2 := kw_2 (T := T) (n := x9_1) (s := v1201) (by omega)
          refine wk_al0 r157_28 (wk_il1 r157_29 (wk_cv2 r157_30 kc_6_166 rfl (n7166_6 _ M1253 p1 x9_1 v1268 v1272 v1209 v1213 x6_3 T c0 z0 ((o ++ Oa)) ((11 :: w)) hP1254 (by first | with_reducible assumption | omega) (by first | with_reducible assumption | omega) ((hQ1255.at g_9_1 rfl).trans e1217) (by first | with_reducible assumption | omega) (by first | with_reducible assumption | omega) e1269 (by first | with_reducible assumption | omega) (by first | with_reducible assumption | omega) e1273 (by first | with_reducible assumption | omega) (by first | with_reducible assumption | omega) ((hQ1255.at g_6_4 rfl).trans e1212) (by first | with_reducible assumption | omega) (by first | with_reducible assumption | omega) ((hQ1255.at g_6_5 rfl).trans e1216) (by first | with_reducible assumption | omega) (by first | with_reducible assumption | omega) ((hQ1255.at g_6_3 rfl).trans e1218) (by first | with_reducible assumption | omega) (by first | with_reducible assumption | omega) (by omega) (by omega) (by omega) (by omega) (r2) (fix_11 _) (CLe_len (CLe_sm (Sm.fr hQ1255 rfl) pr1250) (by omega)) pr1263 pr1264 (fun h1 d2 h2 => hX h1 d2 (by omega))) (cqI ?_)))
          rintro v1296 M1278 ⟨hP1279, hQ1280, h1297, h1298, h1282, h1283, h1284, h1285, h1286, h1287, h1288, h1289, h1290, h1291, xh1292, pr1293, pr1294, pr1295⟩
          have hF1281 : Fr fm_n7157_6 M0 M1278 := hF1256.tr hQ1280 rfl
          have pr1299 : OCe M1278 M0 := OCe_tr pr1295 (OCe_sm (Sm.fr hQ1255 rfl) pr1221)
          obtain ⟨v1300, e1301⟩ : ∃ v, M1278 9 3 = v := ⟨_, rfl⟩
          have h1302 := (bf_9_3 hP1279).1; rw [e1301] at h1302
          have h1303 := (bf_9_3 hP1279).2; rw [e1301] at h1303
          obtain ⟨v1304, e1305⟩ : ∃ v, M1278 9 2 = v := ⟨_, rfl⟩
          have h1306 := (bf_9_2 hP1279).1; rw [e1305] at h1306
          have h1307 := (bf_9_2 hP1279).2; rw [e1305] at h1307
          obtain ⟨v1308, e1309⟩ : ∃ v, M1278 6 4 = v := ⟨_, rfl⟩
          have h1310 := (bf_6_4 hP1279).1; rw [e1309] at h1310
          have h1311 := (bf_6_4 hP1279).2; rw [e1309] at h1311
          obtain ⟨v1312, e1313⟩ : ∃ v, M1278 6 5 = v := ⟨_, rfl⟩
          have h1314 := (bf_6_5 hP1279).1; rw [e1313] at h1314
          have h1315 := (bf_6_5 hP1279).2; rw [e1313] at h1315
          refine wk_ifeq r157_33 ⟨by omega, by omega⟩ ?_ ?_
          · intro h1316
            clear h1288 h1289 h1290 h1291
            refine wk_c1 r157_45 ?_
            subst hQ; exact wk_zret r157_46 (by decide) (⟨rfl, _, rfl, hP1279, hF1281, by omega, by omega, by have := e1301; omega, by have := e1301; omega, by have := e1305; omega, by have := e1305; have := e1301; omega, by have := e1309; omega, by have := e1313; omega, by omega, by omega, by omega, by omega, Or.inr ⟨by omega, by rw [e1313, e1309]; exact F_k (or_r xh1292 (by omega)) (by omega) (by omega)⟩, pr1293, pr1294, pr1299⟩)
          · intro h1317
            replace h1288 := h1288 (z1_of h1297 h1298 h1317)
            replace h1289 := h1289 (z1_of h1297 h1298 h1317)
            replace h1290 := h1290 (z1_of h1297 h1298 h1317)
            replace h1291 := h1291 (z1_of h1297 h1298 h1317)
            have r3 := or_l xh1292 (by omega); rw [e1301] at r3
            have hlen3 := XN_len r3
            have hle3 := (CLe_sm (Sm.fr hQ1255 rfl) pr1250)
            rw [hle3.2] at hlen3
            have pr1318 : CLe M1278 (CLm M1278) := ⟨pcE hP1279, rfl⟩
            refine wk_al0 r157_36 (wk_c1 r157_37 (wk_c1 r157_38 (wk_cv3 r157_39 kc_6_172 rfl (n7172_6 _ M1278 2 0 hP1279 (by decide) (by decide) (by decide) (by decide) (by first | assumption | omega | (unfold stepok; omega))) (cqI ?_))))
            rintro v1325 M1319 ⟨hP1320, hQ1321, h1326, h1327, xh1323, pr1324⟩
            have hF1322 : Fr fm_n7157_6 M0 M1319 := hF1281.tr hQ1321 rfl
            have pr1328 : OCe M1319 M0 := OCe_tr pr1324 pr1299
            have pr1329 : CLe M1319 (CLm M1278 ++ [2]) := xh1323 _ pr1318 (by omega)
            refine wk_ifne r157_42 ⟨by omega, by omega⟩ ?_ ?_
            · intro h1330
              refine wk_inc2 r157_47 rfl (wk_goto r157_50 ?_)
              exact wp_fg (le_s (le_s (le_s le_0))) (ih1332 (500 - (v1195 + 1)).toNat (by omega) M1319 (v1195 + 1) v1300 v1304 v1308 v1312 rfl hP1320 hF1322 ((hQ1321.at g_9_3 rfl).trans e1301) ((hQ1321.at g_9_2 rfl).trans e1305) ((hQ1321.at g_6_4 rfl).trans e1309) ((hQ1321.at g_6_5 rfl).trans e1313) ((hQ1321.at g_9_1 rfl).trans ((hQ1280.at g_9_1 rfl).trans ((hQ1255.at g_9_1 rfl).trans e1217))) ((hQ1321.at g_6_3 rfl).trans ((hQ1280.at g_6_3 rfl).trans ((hQ1255.at g_6_3 rfl).trans e1218))) (by first | with_reducible assumption | omega) (by first | with_reducible assumption | omega) (by first | with_reducible assumption | omega) (by first | with_reducible assumption | omega) (by first | with_reducible assumption | omega) (by first | with_reducible assumption | omega) (by first | with_reducible assumption | omega) (by first | with_reducible assumption | omega) (by first | with_reducible assumption | omega) (by first | with_reducible assumption | omega) (TXP_sm (Sm.fr hQ1321 rfl) pr1293) (TCP_sm (Sm.fr hQ1321 rfl) pr1294) pr1328 (by first | with_reducible assumption | omega) (by first | with_reducible assumption | omega) (by first | with_reducible assumption | omega) (by first | with_reducible assumption | omega) (by first | with_reducible assumption | omega) (by first | with_reducible assumption | omega) (by first | with_reducible assumption | omega) (by first | with_reducible assumption | omega) (by first | with_reducible assumption | omega) (by first | with_reducible assumption | omega) (by first | with_reducible assumption | omega) (by first | with_reducible assumption | omega) (by first | with_reducible assumption | omega) (by first | with_reducible assumption | omega) (by first | with_reducible assumption | omega) (by first | with_reducible assumption | omega) (by first | with_reducible assumption | omega) (by first | with_reducible assumption | omega) (by first | with_reducible assumption | omega) (by first | with_reducible assumption | omega) (by first | with_reducible assumption | omega) (by first | with_reducible assumption | omega) (by first | with_reducible assumption | omega) (by first | with_reducible assumption | omega) (by first | with_reducible assumption | omega) (by first | with_reducible assumption | omega) (by first | with_reducible assumption | omega) (XN_and ea la (by omega) r3 (hle3.2.trans ca) (pr1329).2 rfl xp1 (by omega)))
            · intro h1331
              exfalso
              omega
    exact wp_fg (le_s (le_s (le_s le_0))) (c12_1332 _ M1 0 v23 v27 v31 v35 rfl hP2 hF4 e24 e28 e32 e36 ((hQ3.at g_9_1 rfl).trans ex9_1) ((hQ3.at g_6_3 rfl).trans ex6_3) (by first | with_reducible assumption | omega) (by first | with_reducible assumption | omega) (by first | with_reducible assumption | omega) (by first | with_reducible assumption | omega) (by first | with_reducible assumption | omega) (by first | with_reducible assumption | omega) (by first | with_reducible assumption | omega) (by first | with_reducible assumption | omega) (by first | with_reducible assumption | omega) (by first | with_reducible assumption | omega) pr16 pr17 pr22 (by first | with_reducible assumption | omega) (by first | with_reducible assumption | omega) (by first | with_reducible assumption | omega) (by first | with_reducible assumption | omega) (by first | with_reducible assumption | omega) (by first | with_reducible assumption | omega) (by first | with_reducible assumption | omega) (by first | with_reducible assumption | omega) (by first | with_reducible assumption | omega) (by first | with_reducible assumption | omega) (by first | with_reducible assumption | omega) (by first | with_reducible assumption | omega) (by first | with_reducible assumption | omega) (by first | with_reducible assumption | omega) (by first | with_reducible assumption | omega) (by first | with_reducible assumption | omega) (by first | with_reducible assumption | omega) (by first | with_reducible assumption | omega) (by first | with_reducible assumption | omega) (by first | with_reducible assumption | omega) (by first | with_reducible assumption | omega) (by first | with_reducible assumption | omega) (by first | with_reducible assumption | omega) (by first | with_reducible assumption | omega) (by first | with_reducible assumption | omega) (by first | with_reducible assumption | omega) (by first | with_reducible assumption | omega) (XN_wk (or_l xh15 (by omega)) (by decide) xp1 (by omega) (e24).symm rfl))
  · intro h1333
    clear h11 h12 h13 h14
    refine wk_c1 r157_8 ?_
    subst hQ; exact wk_zret r157_9 (by decide) (⟨rfl, _, rfl, hP2, hF4, by omega, by omega, by have := e24; omega, by have := e24; omega, by have := e28; omega, by have := e28; have := e24; omega, by have := e32; omega, by have := e36; omega, by omega, by omega, by omega, by omega, Or.inr ⟨by omega, by rw [e36, e32]; exact F_k (or_r xh15 (by omega)) (by omega) (by omega)⟩, pr16, pr17, pr22⟩)
set_option maxHeartbeats 20000000 in
/-- IslandHall$Parser.expr -/
theorem n7158_6 {B : eB} (d : Nat) (M0 : Mm) (p1 : Int) (x9_1 : Int) (x9_3 : Int) (x9_2 : Int) (x6_4 : Int) (x6_5 : Int) (x6_3 : Int) (T : Int → Int) (c0 : Cg) (z0 : Og) (o : List Int) (w : List Int) (hP0 : Pw M0) (l1 : 0 ≤ p1) (u1 : p1 ≤ 6) (ex9_1 : M0 9 1 = x9_1) (lx9_1 : 0 ≤ x9_1) (ux9_1 : x9_1 ≤ 500) (ex9_3 : M0 9 3 = x9_3) (lx9_3 : 0 ≤ x9_3) (ux9_3 : x9_3 ≤ 500) (ex9_2 : M0 9 2 = x9_2) (lx9_2 : 0 ≤ x9_2) (ux9_2 : x9_2 ≤ 500) (ex6_4 : M0 6 4 = x6_4) (lx6_4 : 0 ≤ x6_4) (ux6_4 : x6_4 ≤ 6) (ex6_5 : M0 6 5 = x6_5) (lx6_5 : (-1) ≤ x6_5) (ux6_5 : x6_5 ≤ 500) (ex6_3 : M0 6 3 = x6_3) (lx6_3 : (-1) ≤ x6_3) (ux6_3 : x6_3 ≤ 7) (rp0 : 0 ≤ x9_1 + (-1) * x9_2) (rp1 : 0 ≤ x9_2 + (-1) * x9_3) (rp2 : 0 ≤ x9_1 + (-1) * x9_3) (rp3 : 0 ≤ (-1) * x6_3 + 7) (xp0 : RQ T x9_1 x6_3 (c0, z0) ((0, p1, x9_3, 0), (o, w))) (xp1 : fix 1 w) (xp2 : 2 * ((CLm M0).length : Int) ≤ x9_3 + 2) (pp_TX : TXP T M0) (pp_TC : TCP T M0) (hX : p1 ≤ 5 → ∀ d2 : Nat, d ≤ d2 → ∀ (M0 : Mm) (x9_1 : Int) (x9_3 : Int) (x9_2 : Int) (x6_4 : Int) (x6_5 : Int) (x6_3 : Int) (T : Int → Int) (c0 : Cg) (z0 : Og) (o : List Int) (w : List Int) (hP0 : Pw M0) (ex9_1 : M0 9 1 = x9_1) (lx9_1 : 0 ≤ x9_1) (ux9_1 : x9_1 ≤ 500) (ex9_3 : M0 9 3 = x9_3) (lx9_3 : 0 ≤ x9_3) (ux9_3 : x9_3 ≤ 500) (ex9_2 : M0 9 2 = x9_2) (lx9_2 : 0 ≤ x9_2) (ux9_2 : x9_2 ≤ 500) (ex6_4 : M0 6 4 = x6_4) (lx6_4 : 0 ≤ x6_4) (ux6_4 : x6_4 ≤ 6) (ex6_5 : M0 6 5 = x6_5) (lx6_5 : (-1) ≤ x6_5) (ux6_5 : x6_5 ≤ 500) (ex6_3 : M0 6 3 = x6_3) (lx6_3 : (-1) ≤ x6_3) (ux6_3 : x6_3 ≤ 7) (rp0 : 0 ≤ x9_1 + (-1) * x9_2) (rp1 : 0 ≤ x9_2 + (-1) * x9_3) (rp2 : 0 ≤ x9_1 + (-1) * x9_3) (rp3 : 0 ≤ (-1) * x6_3 + 7) (xp0 : RQ T x9_1 x6_3 (c0, z0) ((0, (p1 + 1), x9_3, 0), (o, w))) (xp1 : fix 1 w) (xp2 : 2 * ((CLm M0).length : Int) ≤ x9_3 + 2) (pp_TX : TXP T M0) (pp_TC : TCP T M0), Ct B (d2 + 20) 158 [R 6, I (p1 + 1)] M0 (qI fun z M => Pw M ∧ Fr fm_n7158_6E M0 M ∧ 0 ≤ z ∧ z ≤ 1 ∧ 0 ≤ M 9 3 + (-1) * x9_3 ∧ 0 ≤ x9_1 + (-1) * (M 9 3) ∧ 0 ≤ x9_1 + (-1) * (M 9 2) ∧ 0 ≤ M 9 2 + (-1) * (M 9 3) ∧ 0 ≤ M 6 4 ∧ 0 ≤ M 6 5 + 1 ∧ (z = 1 → 0 ≤ M 6 4 + (-1) * x6_4) ∧ (z = 1 → 0 ≤ (-1) * (M 6 4) + x6_4) ∧ (z = 1 → 0 ≤ M 6 5 + (-1) * x6_5) ∧ (z = 1 → 0 ≤ (-1) * (M 6 5) + x6_5) ∧ ((z = 1 ∧ XN T x9_1 x6_3 c0 z0 ((p1 + 1) + 1) (M 9 3) o w 1 (CLm M0) (CLm M) (13 - 2 * (p1 + 1)) x9_3 ∧ kw T x9_1 (M 9 3) ≠ 12 ∧ kw T x9_1 (M 9 3) ≠ 13) ∨ (z = 0 ∧ Rch T x9_1 x6_3 c0 (3, 0, M 6 5, M 6 4))) ∧ (TXP T M) ∧ (TCP T M) ∧ (OCe M M0))) : Ct B (d + 26) 158 [R 6, I p1] M0 (qI fun z M => Pw M ∧ Fr fm_n7158_6E M0 M ∧ 0 ≤ z ∧ z ≤ 1 ∧ 0 ≤ M 9 3 + (-1) * x9_3 ∧ 0 ≤ x9_1 + (-1) * (M 9 3) ∧ 0 ≤ x9_1 + (-1) * (M 9 2) ∧ 0 ≤ M 9 2 + (-1) * (M 9 3) ∧ 0 ≤ M 6 4 ∧ 0 ≤ M 6 5 + 1 ∧ (z = 1 → 0 ≤ M 6 4 + (-1) * x6_4) ∧ (z = 1 → 0 ≤ (-1) * (M 6 4) + x6_4) ∧ (z = 1 → 0 ≤ M 6 5 + (-1) * x6_5) ∧ (z = 1 → 0 ≤ (-1) * (M 6 5) + x6_5) ∧ ((z = 1 ∧ XN T x9_1 x6_3 c0 z0 (p1 + 1) (M 9 3) o w 1 (CLm M0) (CLm M) (13 - 2 * p1) x9_3 ∧ kw T x9_1 (M 9 3) ≠ 12 ∧ kw T x9_1 (M 9 3) ≠ 13) ∨ (z = 0 ∧ Rch T x9_1 x6_3 c0 (3, 0, M 6 5, M 6 4))) ∧ (TXP T M) ∧ (TCP T M) ∧ (OCe M M0)) := by
  refine ct_of (d := d + 25) (k := 1) (L := [some (R 6), some (I p1), none]) rfl rfl rfl ?_
  have hF0 := Fr.rf fm_n7158_6E M0
  generalize hQ : (qI fun z M => Pw M ∧ Fr fm_n7158_6E M0 M ∧ 0 ≤ z ∧ z ≤ 1 ∧ 0 ≤ M 9 3 + (-1) * x9_3 ∧ 0 ≤ x9_1 + (-1) * (M 9 3) ∧ 0 ≤ x9_1 + (-1) * (M 9 2) ∧ 0 ≤ M 9 2 + (-1) * (M 9 3) ∧ 0 ≤ M 6 4 ∧ 0 ≤ M 6 5 + 1 ∧ (z = 1 → 0 ≤ M 6 4 + (-1) * x6_4) ∧ (z = 1 → 0 ≤ (-1) * (M 6 4) + x6_4) ∧ (z = 1 → 0 ≤ M 6 5 + (-1) * x6_5) ∧ (z = 1 → 0 ≤ (-1) * (M 6 5) + x6_5) ∧ ((z = 1 ∧ XN T x9_1 x6_3 c0 z0 (p1 + 1) (M 9 3) o w 1 (CLm M0) (CLm M) (13 - 2 * p1) x9_3 ∧ kw T x9_1 (M 9 3) ≠ 12 ∧ kw T x9_1 (M 9 3) ≠ 13) ∨ (z = 0 ∧ Rch T x9_1 x6_3 c0 (3, 0, M 6 5, M 6 4))) ∧ (TXP T M) ∧ (TCP T M) ∧ (OCe M M0)) = Q
  have hCe : CLe M0 (CLm M0) := ⟨pcE hP0, rfl⟩
  have hOe : OCe M0 M0 := OCe_rf M0
  refine wk_al0 r158_0 (wk_cv1 r158_1 kc_6_155 rfl (n7155_6 _ M0 x9_1 x9_3 T hP0 ex9_1 (by first | with_reducible assumption | omega) (by first | with_reducible assumption | omega) ex9_3 (by first | with_reducible assumption | omega) (by first | with_reducible assumption | omega) pp_TX pp_TC) (cqI ?_))
  rintro v6 M1 ⟨hP2, hQ3, h7, h8, xh5⟩
  obtain rfl := Fr.same hQ3
  refine wk_ifne r158_4 ⟨by omega, by omega⟩ ?_ ?_
  · intro h9
    refine wk_il1 r158_13 (wk_c2 r158_14 ?_)
    refine wk_iclt r158_16 ⟨by omega, by omega⟩ (by decide) ?_ ?_
    · intro h10
      have r2 : RQ T x9_1 x6_3 (c0, z0) ((1, p1 + 1, x9_3, 0), (o, w)) := yE_b xp0 (by omega) (by omega) (by omega)
      refine wk_al0 r158_25 (wk_il1 r158_26 (wk_cv2 r158_27 kc_6_157 rfl (n7157_6 _ M0 p1 x9_1 x9_3 x9_2 x6_4 x6_5 x6_3 T c0 z0 o w hP0 (by first | with_reducible assumption | omega) (by first | with_reducible assumption | omega) ex9_1 (by first | with_reducible assumption | omega) (by first | with_reducible assumption | omega) ex9_3 (by first | with_reducible assumption | omega) (by first | with_reducible assumption | omega) ex9_2 (by first | with_reducible assumption | omega) (by first | with_reducible assumption | omega) ex6_4 (by first | with_reducible assumption | omega) (by first | with_reducible assumption | omega) ex6_5 (by first | with_reducible assumption | omega) (by first | with_reducible assumption | omega) ex6_3 (by first | with_reducible assumption | omega) (by first | with_reducible assumption | omega) (by omega) (by omega) (by omega) (by omega) (r2) (fix_m xp1 (by decide)) (CLe_len hCe (by omega)) pp_TX pp_TC (fun h1 d2 h2 => hX h1 d2 (by omega))) (cqI ?_)))
      rintro v29 M11 ⟨hP12, hQ13, h30, h31, h15, h16, h17, h18, h19, h20, h21, h22, h23, h24, xh25, pr26, pr27, pr28⟩
      have hF14 : Fr fm_n7158_6E M0 M11 := hF0.tr hQ13 rfl
      have pr32 : OCe M11 M0 := OCe_tr pr28 hOe
      obtain ⟨v33, e34⟩ : ∃ v, M11 9 3 = v := ⟨_, rfl⟩
      have h35 := (bf_9_3 hP12).1; rw [e34] at h35
      have h36 := (bf_9_3 hP12).2; rw [e34] at h36
      obtain ⟨v37, e38⟩ : ∃ v, M11 9 2 = v := ⟨_, rfl⟩
      have h39 := (bf_9_2 hP12).1; rw [e38] at h39
      have h40 := (bf_9_2 hP12).2; rw [e38] at h40
      obtain ⟨v41, e42⟩ : ∃ v, M11 6 4 = v := ⟨_, rfl⟩
      have h43 := (bf_6_4 hP12).1; rw [e42] at h43
      have h44 := (bf_6_4 hP12).2; rw [e42] at h44
      obtain ⟨v45, e46⟩ : ∃ v, M11 6 5 = v := ⟨_, rfl⟩
      have h47 := (bf_6_5 hP12).1; rw [e46] at h47
      have h48 := (bf_6_5 hP12).2; rw [e46] at h48
      refine wk_ifne r158_30 ⟨by omega, by omega⟩ ?_ ?_
      · intro h49
        replace h21 := h21 (z1_of h30 h31 h49)
        replace h22 := h22 (z1_of h30 h31 h49)
        replace h23 := h23 (z1_of h30 h31 h49)
        replace h24 := h24 (z1_of h30 h31 h49)
        refine wk_c1 r158_35 (wk_is2 r158_36 rfl ?_)
        have c37_1342 : ∀ (k1342 : Nat) (M1208 : Mm) (v1205 : Int) (v1211 : Int) (v1215 : Int) (v1219 : Int) (v1223 : Int), (500 - v1205).toNat = k1342 → Pw M1208 → Fr fm_n7158_6E M0 M1208 → M1208 9 3 = v1211 → M1208 9 2 = v1215 → M1208 6 4 = v1219 → M1208 6 5 = v1223 → M1208 9 1 = x9_1 → M1208 6 3 = x6_3 → 0 ≤ v1205 → v1205 ≤ 500 → 0 ≤ v1211 → v1211 ≤ 500 → 0 ≤ v1215 → v1215 ≤ 500 → 0 ≤ v1219 → v1219 ≤ 6 → (-1) ≤ v1223 → v1223 ≤ 500 → (TXP T M1208) → (TCP T M1208) → (OCe M1208 M0) → 0 ≤ 1 * v1211 + (-1) * x9_3 → 0 ≤ 1 * x9_1 + (-1) * v1211 → 0 ≤ 1 * x9_1 + (-1) * v1215 → 0 ≤ 1 * v1215 + (-1) * v1211 → 0 ≤ 1 * v1211 + (-1) * v1205 → 0 ≤ 1 * v1219 + (-1) * x6_4 → 0 ≤ (-1) * v1219 + 1 * x6_4 → 0 ≤ 1 * v1223 + (-1) * x6_5 → 0 ≤ (-1) * v1223 + 1 * x6_5 → 0 ≤ (-1) * v1205 + v1211 + 0 → 0 ≤ (-1) * v1205 + v1215 + 0 → 0 ≤ (-1) * v1211 + v1205 + 500 → 0 ≤ (-1) * v1211 + v1215 + 0 → 0 ≤ (-1) * v1211 + v1219 + 500 → 0 ≤ (-1) * v1211 + v1223 + 501 → 0 ≤ (-1) * v1215 + v1205 + 500 → 0 ≤ (-1) * v1215 + v1211 + 500 → 0 ≤ (-1) * v1215 + v1219 + 500 → 0 ≤ (-1) * v1215 + v1223 + 501 → 0 ≤ (-1) * v1219 + v1205 + 6 → 0 ≤ (-1) * v1219 + v1211 + 6 → 0 ≤ (-1) * v1219 + v1215 + 6 → 0 ≤ (-1) * v1219 + v1223 + 7 → 0 ≤ (-1) * v1223 + v1205 + 500 → 0 ≤ (-1) * v1223 + v1211 + 500 → 0 ≤ (-1) * v1223 + v1215 + 500 → 0 ≤ (-1) * v1223 + v1219 + 500 → (XN T x9_1 x6_3 c0 z0 (p1 + 1) v1211 o w 1 (CLm M0) (CLm M1208) (13 - 2 * p1) x9_3 ∧ kw T x9_1 v1211 ≠ 12) → Wp B (d + 25) 158 37 [some (R 6), some (I p1), some (I v1205)] [] M1208 Q := by
          refine lp_ind ?_
          intro k1342 ih1342 M1208 v1205 v1211 v1215 v1219 v1223 hk1342 hP1209 hF1210 e1214 e1218 e1222 e1226 e1227 e1228 h1206 h1207 h1212 h1213 h1216 h1217 h1220 h1221 h1224 h1225 pr1229 pr1230 pr1231 h1232 h1233 h1234 h1235 h1236 h1237 h1238 h1239 h1240 h1241 h1242 h1243 h1244 h1245 h1246 h1247 h1248 h1249 h1250 h1251 h1252 h1253 h1254 h1255 h1256 h1257 h1258 ti1259
          have pr1260 : CLe M1208 (CLm M1208) := ⟨pcE hP1209, rfl⟩
          refine wk_il2 r158_37 (wk_c3 r158_38 ?_)
          refine wk_icge r158_41 ⟨by omega, by omega⟩ (by decide) ?_ ?_
          · intro h1261
            refine wk_c1 r158_78 ?_
            subst hQ; exact wk_zret r158_79 (by decide) (⟨rfl, _, rfl, hP1209, hF1210, by omega, by omega, by have := e1214; omega, by have := e1214; omega, by have := e1218; omega, by have := e1218; have := e1214; omega, by have := e1222; omega, by have := e1226; omega, by have := e1222; omega, by have := e1222; omega, by have := e1226; omega, by have := e1226; omega, Or.inl ⟨by omega, by rw [e1214]; exact ⟨XN_c (ti1259).1 (by omega) (pr1260).2 (Int.le_refl _), by have := kw_lt (T := T) (n := x9_1) (s := v1211); have := (ti1259).2; omega⟩⟩, pr1229, pr1230, pr1231⟩)
          · intro h1262
            refine wk_al0 r158_44 (wk_c8 r158_45 (wk_cv2 r158_47 kc_6_175 rfl (n7175_6 _ M1208 4126 x9_1 v1211 v1215 T hP1209 (by decide) e1227 (by first | with_reducible assumption | omega) (by first | with_reducible assumption | omega) e1214 (by first | with_reducible assumption | omega) (by first | with_reducible assumption | omega) e1218 (by first | with_reducible assumption | omega) (by first | with_reducible assumption | omega) (by omega) (by omega) (by omega) (by first | assumption | omega | (unfold stepok; omega)) pr1229 pr1230) (cqI ?_)))
            rintro v1275 M1263 ⟨hP1264, hQ1265, h1276, h1277, h1267, h1268, h1269, h1270, h1271, xh1272, pr1273, pr1274⟩
            have hF1266 : Fr fm_n7158_6E M0 M1263 := hF1210.tr hQ1265 rfl
            obtain ⟨v1278, e1279⟩ : ∃ v, M1263 9 3 = v := ⟨_, rfl⟩
            have h1280 := (bf_9_3 hP1264).1; rw [e1279] at h1280
            have h1281 := (bf_9_3 hP1264).2; rw [e1279] at h1281
            obtain ⟨v1282, e1283⟩ : ∃ v, M1263 9 2 = v := ⟨_, rfl⟩
            have h1284 := (bf_9_2 hP1264).1; rw [e1283] at h1284
            have h1285 := (bf_9_2 hP1264).2; rw [e1283] at h1285
            rw [show wix 4126 = 13 from rfl] at xh1272
            refine wk_ifeq r158_50 ⟨by omega, by omega⟩ ?_ ?_
            · intro h1286
              clear h1271
              obtain rfl : v1211 = v1278 := by omega
              obtain rfl : v1215 = v1282 := by omega
              refine wk_c1 r158_78 ?_
              subst hQ; exact wk_zret r158_79 (by decide) (⟨rfl, _, rfl, hP1264, hF1266, by omega, by omega, by have := e1279; omega, by have := e1279; omega, by have := e1283; omega, by have := e1283; have := e1279; omega, by have := ((hQ1265.at g_6_4 rfl).trans e1222); omega, by have := ((hQ1265.at g_6_5 rfl).trans e1226); omega, by have := ((hQ1265.at g_6_4 rfl).trans e1222); omega, by have := ((hQ1265.at g_6_4 rfl).trans e1222); omega, by have := ((hQ1265.at g_6_5 rfl).trans e1226); omega, by have := ((hQ1265.at g_6_5 rfl).trans e1226); omega, Or.inl ⟨by omega, by rw [e1279]; exact ⟨XN_c (ti1259).1 (by omega) ((CLe_sm (Sm.fr hQ1265 rfl) pr1260)).2 (Int.le_refl _), by have := kw_lt (T := T) (n := x9_1) (s := v1211); have := (ti1259).2; omega⟩⟩, pr1273, pr1274, (OCe_sm (Sm.fr hQ1265 rfl) pr1231)⟩)
            · intro h1287
              replace h1271 := h1271 (z1_of h1276 h1277 h1287)
              obtain ⟨Oa, Ca, r2, ca, ea, la⟩ := XN_oo ti1259.1 (by omega) (s1 := v1278) (by omega)
              have hlen := XN_len ti1259.1
              have hk2 := kw_2 (T := T) (n := x9_1) (s := v1211) (by omega)
              refine wk_al0 r158_53 (wk_il1 r158_54 (wk_cv2 r158_55 kc_6_157 rfl (n7157_6 _ M1263 p1 x9_1 v1278 v1282 v1219 v1223 x6_3 T c0 z0 ((o ++ Oa)) ((12 :: w)) hP1264 (by first | with_reducible assumption | omega) (by first | with_reducible assumption | omega) ((hQ1265.at g_9_1 rfl).trans e1227) (by first | with_reducible assumption | omega) (by first | with_reducible assumption | omega) e1279 (by first | with_reducible assumption | omega) (by first | with_reducible assumption | omega) e1283 (by first | with_reducible assumption | omega) (by first | with_reducible assumption | omega) ((hQ1265.at g_6_4 rfl).trans e1222) (by first | with_reducible assumption | omega) (by first | with_reducible assumption | omega) ((hQ1265.at g_6_5 rfl).trans e1226) (by first | with_reducible assumption | omega) (by first | with_reducible assumption | omega) ((hQ1265.at g_6_3 rfl).trans e1228) (by first | with_reducible assumption | omega) (by first | with_reducible assumption | omega) (by omega) (by omega) (by omega) (by omega) (r2) (fix_12 _) (CLe_len (CLe_sm (Sm.fr hQ1265 rfl) pr1260) (by omega)) pr1273 pr1274 (fun h1 d2 h2 => hX h1 d2 (by omega))) (cqI ?_)))
              rintro v1306 M1288 ⟨hP1289, hQ1290, h1307, h1308, h1292, h1293, h1294, h1295, h1296, h1297, h1298, h1299, h1300, h1301, xh1302, pr1303, pr1304, pr1305⟩
              have hF1291 : Fr fm_n7158_6E M0 M1288 := hF1266.tr hQ1290 rfl
              have pr1309 : OCe M1288 M0 := OCe_tr pr1305 (OCe_sm (Sm.fr hQ1265 rfl) pr1231)
              obtain ⟨v1310, e1311⟩ : ∃ v, M1288 9 3 = v := ⟨_, rfl⟩
              have h1312 := (bf_9_3 hP1289).1; rw [e1311] at h1312
              have h1313 := (bf_9_3 hP1289).2; rw [e1311] at h1313
              obtain ⟨v1314, e1315⟩ : ∃ v, M1288 9 2 = v := ⟨_, rfl⟩
              have h1316 := (bf_9_2 hP1289).1; rw [e1315] at h1316
              have h1317 := (bf_9_2 hP1289).2; rw [e1315] at h1317
              obtain ⟨v1318, e1319⟩ : ∃ v, M1288 6 4 = v := ⟨_, rfl⟩
              have h1320 := (bf_6_4 hP1289).1; rw [e1319] at h1320
              have h1321 := (bf_6_4 hP1289).2; rw [e1319] at h1321
              obtain ⟨v1322, e1323⟩ : ∃ v, M1288 6 5 = v := ⟨_, rfl⟩
              have h1324 := (bf_6_5 hP1289).1; rw [e1323] at h1324
              have h1325 := (bf_6_5 hP1289).2; rw [e1323] at h1325
              refine wk_ifeq r158_58 ⟨by omega, by omega⟩ ?_ ?_
              · intro h1326
                clear h1298 h1299 h1300 h1301
                refine wk_c1 r158_70 ?_
                subst hQ; exact wk_zret r158_71 (by decide) (⟨rfl, _, rfl, hP1289, hF1291, by omega, by omega, by have := e1311; omega, by have := e1311; omega, by have := e1315; omega, by have := e1315; have := e1311; omega, by have := e1319; omega, by have := e1323; omega, by omega, by omega, by omega, by omega, Or.inr ⟨by omega, by rw [e1323, e1319]; exact F_k (or_r xh1302 (by omega)) (by omega) (by omega)⟩, pr1303, pr1304, pr1309⟩)
              · intro h1327
                replace h1298 := h1298 (z1_of h1307 h1308 h1327)
                replace h1299 := h1299 (z1_of h1307 h1308 h1327)
                replace h1300 := h1300 (z1_of h1307 h1308 h1327)
                replace h1301 := h1301 (z1_of h1307 h1308 h1327)
                have r3 := or_l xh1302 (by omega); rw [e1311] at r3
                have r3 := r3.1
                have hlen3 := XN_len r3
                have hle3 := (CLe_sm (Sm.fr hQ1265 rfl) pr1260)
                rw [hle3.2] at hlen3
                have pr1328 : CLe M1288 (CLm M1288) := ⟨pcE hP1289, rfl⟩
                refine wk_al0 r158_61 (wk_c1 r158_62 (wk_c1 r158_63 (wk_cv3 r158_64 kc_6_172 rfl (n7172_6 _ M1288 3 0 hP1289 (by decide) (by decide) (by decide) (by decide) (by first | assumption | omega | (unfold stepok; omega))) (cqI ?_))))
                rintro v1335 M1329 ⟨hP1330, hQ1331, h1336, h1337, xh1333, pr1334⟩
                have hF1332 : Fr fm_n7158_6E M0 M1329 := hF1291.tr hQ1331 rfl
                have pr1338 : OCe M1329 M0 := OCe_tr pr1334 pr1309
                have pr1339 : CLe M1329 (CLm M1288 ++ [3]) := xh1333 _ pr1328 (by omega)
                refine wk_ifne r158_67 ⟨by omega, by omega⟩ ?_ ?_
                · intro h1340
                  refine wk_inc2 r158_72 rfl (wk_goto r158_75 ?_)
                  exact wp_fg (le_s (le_s (le_s le_0))) (ih1342 (500 - (v1205 + 1)).toNat (by omega) M1329 (v1205 + 1) v1310 v1314 v1318 v1322 rfl hP1330 hF1332 ((hQ1331.at g_9_3 rfl).trans e1311) ((hQ1331.at g_9_2 rfl).trans e1315) ((hQ1331.at g_6_4 rfl).trans e1319) ((hQ1331.at g_6_5 rfl).trans e1323) ((hQ1331.at g_9_1 rfl).trans ((hQ1290.at g_9_1 rfl).trans ((hQ1265.at g_9_1 rfl).trans e1227))) ((hQ1331.at g_6_3 rfl).trans ((hQ1290.at g_6_3 rfl).trans ((hQ1265.at g_6_3 rfl).trans e1228))) (by first | with_reducible assumption | omega) (by first | with_reducible assumption | omega) (by first | with_reducible assumption | omega) (by first | with_reducible assumption | omega) (by first | with_reducible assumption | omega) (by first | with_reducible assumption | omega) (by first | with_reducible assumption | omega) (by first | with_reducible assumption | omega) (by first | with_reducible assumption | omega) (by first | with_reducible assumption | omega) (TXP_sm (Sm.fr hQ1331 rfl) pr1303) (TCP_sm (Sm.fr hQ1331 rfl) pr1304) pr1338 (by first | with_reducible assumption | omega) (by first | with_reducible assumption | omega) (by first | with_reducible assumption | omega) (by first | with_reducible assumption | omega) (by first | with_reducible assumption | omega) (by first | with_reducible assumption | omega) (by first | with_reducible assumption | omega) (by first | with_reducible assumption | omega) (by first | with_reducible assumption | omega) (by first | with_reducible assumption | omega) (by first | with_reducible assumption | omega) (by first | with_reducible assumption | omega) (by first | with_reducible assumption | omega) (by first | with_reducible assumption | omega) (by first | with_reducible assumption | omega) (by first | with_reducible assumption | omega) (by first | with_reducible assumption | omega) (by first | with_reducible assumption | omega) (by first | with_reducible assumption | omega) (by first | with_reducible assumption | omega) (by first | with_reducible assumption | omega) (by first | with_reducible assumption | omega) (by first | with_reducible assumption | omega) (by first | with_reducible assumption | omega) (by first | with_reducible assumption | omega) (by first | with_reducible assumption | omega) (by first | with_reducible assumption | omega) (⟨XN_or ea la (by omega) r3 (hle3.2.trans ca) (pr1339).2 rfl xp1 (by omega), by have q8 := (or_l xh1302 (by omega)).2; rw [e1311] at q8; exact q8⟩))
                · intro h1341
                  exfalso
                  omega
        exact wp_fg (le_s (le_s (le_s le_0))) (c37_1342 _ M11 0 v33 v37 v41 v45 rfl hP12 hF14 e34 e38 e42 e46 ((hQ13.at g_9_1 rfl).trans ex9_1) ((hQ13.at g_6_3 rfl).trans ex6_3) (by first | with_reducible assumption | omega) (by first | with_reducible assumption | omega) (by first | with_reducible assumption | omega) (by first | with_reducible assumption | omega) (by first | with_reducible assumption | omega) (by first | with_reducible assumption | omega) (by first | with_reducible assumption | omega) (by first | with_reducible assumption | omega) (by first | with_reducible assumption | omega) (by first | with_reducible assumption | omega) pr26 pr27 pr32 (by first | with_reducible assumption | omega) (by first | with_reducible assumption | omega) (by first | with_reducible assumption | omega) (by first | with_reducible assumption | omega) (by first | with_reducible assumption | omega) (by first | with_reducible assumption | omega) (by first | with_reducible assumption | omega) (by first | with_reducible assumption | omega) (by first | with_reducible assumption | omega) (by first | with_reducible assumption | omega) (by first | with_reducible assumption | omega) (by first | with_reducible assumption | omega) (by first | with_reducible assumption | omega) (by first | with_reducible assumption | omega) (by first | with_reducible assumption | omega) (by first | with_reducible assumption | omega) (by first | with_reducible assumption | omega) (by first | with_reducible assumption | omega) (by first | with_reducible assumption | omega) (by first | with_reducible assumption | omega) (by first | with_reducible assumption | omega) (by first | with_reducible assumption | omega) (by first | with_reducible assumption | omega) (by first | with_reducible assumption | omega) (by first | with_reducible assumption | omega) (by first | with_reducible assumption | omega) (by first | with_reducible assumption | omega) (⟨XN_wk (or_l xh25 (by omega)).1 (by decide) xp1 (by omega) (e34).symm rfl, by have q8 := (or_l xh25 (by omega)).2; rw [e34] at q8; exact q8⟩))
      · intro h1343
        clear h21 h22 h23 h24
        refine wk_c1 r158_33 ?_
        subst hQ; exact wk_zret r158_34 (by decide) (⟨rfl, _, rfl, hP12, hF14, by omega, by omega, by have := e34; omega, by have := e34; omega, by have := e38; omega, by have := e38; have := e34; omega, by have := e42; omega, by have := e46; omega, by omega, by omega, by omega, by omega, Or.inr ⟨by omega, by rw [e46, e42]; exact F_k (or_r xh25 (by omega)) (by omega) (by omega)⟩, pr26, pr27, pr32⟩)
    · intro h1344
      refine wk_al0 r158_19 (wk_c1 r158_20 (wk_cv2 r158_21 kc_6_159 rfl (n7159_6 _ M0 2 x9_3 hP0 (by decide) (by decide) ex9_3 (by first | with_reducible assumption | omega) (by first | with_reducible assumption | omega)) (cqI ?_)))
      rintro v1353 M1345 ⟨hP1346, hQ1347, h1354, h1355, h1349, h1350, h1351, h1352⟩
      have hF1348 : Fr fm_n7158_6E M0 M1345 := hF0.tr hQ1347 rfl
      obtain ⟨v1356, e1357⟩ : ∃ v, M1345 6 4 = v := ⟨_, rfl⟩
      have h1358 := (bf_6_4 hP1346).1; rw [e1357] at h1358
      have h1359 := (bf_6_4 hP1346).2; rw [e1357] at h1359
      obtain ⟨v1360, e1361⟩ : ∃ v, M1345 6 5 = v := ⟨_, rfl⟩
      have h1362 := (bf_6_5 hP1346).1; rw [e1361] at h1362
      have h1363 := (bf_6_5 hP1346).2; rw [e1361] at h1363
      subst hQ; exact wk_zret r158_24 ⟨by omega, by omega⟩ (⟨rfl, _, rfl, hP1346, hF1348, by omega, by omega, by have := ((hQ1347.at g_9_3 rfl).trans ex9_3); omega, by have := ((hQ1347.at g_9_3 rfl).trans ex9_3); omega, by have := ((hQ1347.at g_9_2 rfl).trans ex9_2); omega, by have := ((hQ1347.at g_9_2 rfl).trans ex9_2); have := ((hQ1347.at g_9_3 rfl).trans ex9_3); omega, by have := e1357; omega, by have := e1361; omega, by omega, by omega, by omega, by omega, Or.inr ⟨by omega, by rw [e1361, e1357]; exact E_6 xp0.r (by omega) (by omega) (by omega) (by omega)⟩, (TXP_sm (Sm.fr hQ1347 rfl) pp_TX), (TCP_sm (Sm.fr hQ1347 rfl) pp_TC), (OCe_sm (Sm.fr hQ1347 rfl) hOe)⟩)
  · intro h1364
    refine wk_al0 r158_7 (wk_c1 r158_8 (wk_cv2 r158_9 kc_6_159 rfl (n7159_6 _ M0 1 x9_3 hP0 (by decide) (by decide) ex9_3 (by first | with_reducible assumption | omega) (by first | with_reducible assumption | omega)) (cqI ?_)))
    rintro v1373 M1365 ⟨hP1366, hQ1367, h1374, h1375, h1369, h1370, h1371, h1372⟩
    have hF1368 : Fr fm_n7158_6E M0 M1365 := hF0.tr hQ1367 rfl
    obtain ⟨v1376, e1377⟩ : ∃ v, M1365 6 4 = v := ⟨_, rfl⟩
    have h1378 := (bf_6_4 hP1366).1; rw [e1377] at h1378
    have h1379 := (bf_6_4 hP1366).2; rw [e1377] at h1379
    obtain ⟨v1380, e1381⟩ : ∃ v, M1365 6 5 = v := ⟨_, rfl⟩
    have h1382 := (bf_6_5 hP1366).1; rw [e1381] at h1382
    have h1383 := (bf_6_5 hP1366).2; rw [e1381] at h1383
    subst hQ; exact wk_zret r158_12 ⟨by omega, by omega⟩ (⟨rfl, _, rfl, hP1366, hF1368, by omega, by omega, by have := ((hQ1367.at g_9_3 rfl).trans ex9_3); omega, by have := ((hQ1367.at g_9_3 rfl).trans ex9_3); omega, by have := ((hQ1367.at g_9_2 rfl).trans ex9_2); omega, by have := ((hQ1367.at g_9_2 rfl).trans ex9_2); have := ((hQ1367.at g_9_3 rfl).trans ex9_3); omega, by have := e1377; omega, by have := e1381; omega, by omega, by omega, by omega, by omega, Or.inr ⟨by omega, by rw [e1381, e1377]; exact E_n xp0.r (by omega) (by omega) (by omega)⟩, (TXP_sm (Sm.fr hQ1367 rfl) pp_TX), (TCP_sm (Sm.fr hQ1367 rfl) pp_TC), (OCe_sm (Sm.fr hQ1367 rfl) hOe)⟩)
theorem n7158_6_c {B : eB} : ∀ j : Nat, ∀ (M0 : Mm) (p1 : Int) (x9_1 : Int) (x9_3 : Int) (x9_2 : Int) (x6_4 : Int) (x6_5 : Int) (x6_3 : Int) (T : Int → Int) (c0 : Cg) (z0 : Og) (o : List Int) (w : List Int) (hP0 : Pw M0) (l1 : 0 ≤ p1) (u1 : p1 ≤ 6) (ex9_1 : M0 9 1 = x9_1) (lx9_1 : 0 ≤ x9_1) (ux9_1 : x9_1 ≤ 500) (ex9_3 : M0 9 3 = x9_3) (lx9_3 : 0 ≤ x9_3) (ux9_3 : x9_3 ≤ 500) (ex9_2 : M0 9 2 = x9_2) (lx9_2 : 0 ≤ x9_2) (ux9_2 : x9_2 ≤ 500) (ex6_4 : M0 6 4 = x6_4) (lx6_4 : 0 ≤ x6_4) (ux6_4 : x6_4 ≤ 6) (ex6_5 : M0 6 5 = x6_5) (lx6_5 : (-1) ≤ x6_5) (ux6_5 : x6_5 ≤ 500) (ex6_3 : M0 6 3 = x6_3) (lx6_3 : (-1) ≤ x6_3) (ux6_3 : x6_3 ≤ 7) (rp0 : 0 ≤ x9_1 + (-1) * x9_2) (rp1 : 0 ≤ x9_2 + (-1) * x9_3) (rp2 : 0 ≤ x9_1 + (-1) * x9_3) (rp3 : 0 ≤ (-1) * x6_3 + 7) (xp0 : RQ T x9_1 x6_3 (c0, z0) ((0, p1, x9_3, 0), (o, w))) (xp1 : fix 1 w) (xp2 : 2 * ((CLm M0).length : Int) ≤ x9_3 + 2) (pp_TX : TXP T M0) (pp_TC : TCP T M0), 6 - p1 ≤ (j : Int) → ∀ d : Nat, Ct B (d + (26 + 6 * j)) 158 [R 6, I p1] M0 (qI fun z M => Pw M ∧ Fr fm_n7158_6E M0 M ∧ 0 ≤ z ∧ z ≤ 1 ∧ 0 ≤ M 9 3 + (-1) * x9_3 ∧ 0 ≤ x9_1 + (-1) * (M 9 3) ∧ 0 ≤ x9_1 + (-1) * (M 9 2) ∧ 0 ≤ M 9 2 + (-1) * (M 9 3) ∧ 0 ≤ M 6 4 ∧ 0 ≤ M 6 5 + 1 ∧ (z = 1 → 0 ≤ M 6 4 + (-1) * x6_4) ∧ (z = 1 → 0 ≤ (-1) * (M 6 4) + x6_4) ∧ (z = 1 → 0 ≤ M 6 5 + (-1) * x6_5) ∧ (z = 1 → 0 ≤ (-1) * (M 6 5) + x6_5) ∧ ((z = 1 ∧ XN T x9_1 x6_3 c0 z0 (p1 + 1) (M 9 3) o w 1 (CLm M0) (CLm M) (13 - 2 * p1) x9_3 ∧ kw T x9_1 (M 9 3) ≠ 12 ∧ kw T x9_1 (M 9 3) ≠ 13) ∨ (z = 0 ∧ Rch T x9_1 x6_3 c0 (3, 0, M 6 5, M 6 4))) ∧ (TXP T M) ∧ (TCP T M) ∧ (OCe M M0)) := by
  intro j
  induction j with
  | zero =>
    intro M0 p1 x9_1 x9_3 x9_2 x6_4 x6_5 x6_3 T c0 z0 o w hP0 l1 u1 ex9_1 lx9_1 ux9_1 ex9_3 lx9_3 ux9_3 ex9_2 lx9_2 ux9_2 ex6_4 lx6_4 ux6_4 ex6_5 lx6_5 ux6_5 ex6_3 lx6_3 ux6_3 rp0 rp1 rp2 rp3 xp0 xp1 xp2 pp_TX pp_TC hj d
    exact n7158_6 d M0 p1 x9_1 x9_3 x9_2 x6_4 x6_5 x6_3 T c0 z0 o w hP0 l1 u1 ex9_1 lx9_1 ux9_1 ex9_3 lx9_3 ux9_3 ex9_2 lx9_2 ux9_2 ex6_4 lx6_4 ux6_4 ex6_5 lx6_5 ux6_5 ex6_3 lx6_3 ux6_3 rp0 rp1 rp2 rp3 xp0 xp1 xp2 pp_TX pp_TC (fun h => absurd h (by omega))
  | succ j ih =>
    intro M0 p1 x9_1 x9_3 x9_2 x6_4 x6_5 x6_3 T c0 z0 o w hP0 l1 u1 ex9_1 lx9_1 ux9_1 ex9_3 lx9_3 ux9_3 ex9_2 lx9_2 ux9_2 ex6_4 lx6_4 ux6_4 ex6_5 lx6_5 ux6_5 ex6_3 lx6_3 ux6_3 rp0 rp1 rp2 rp3 xp0 xp1 xp2 pp_TX pp_TC hj d
    have h9 := n7158_6 (d + 6 * (j + 1)) M0 p1 x9_1 x9_3 x9_2 x6_4 x6_5 x6_3 T c0 z0 o w hP0 l1 u1 ex9_1 lx9_1 ux9_1 ex9_3 lx9_3 ux9_3 ex9_2 lx9_2 ux9_2 ex6_4 lx6_4 ux6_4 ex6_5 lx6_5 ux6_5 ex6_3 lx6_3 ux6_3 rp0 rp1 rp2 rp3 xp0 xp1 xp2 pp_TX pp_TC (fun h d3 hd M0 x9_1 x9_3 x9_2 x6_4 x6_5 x6_3 T c0 z0 o w hP0 ex9_1 lx9_1 ux9_1 ex9_3 lx9_3 ux9_3 ex9_2 lx9_2 ux9_2 ex6_4 lx6_4 ux6_4 ex6_5 lx6_5 ux6_5 ex6_3 lx6_3 ux6_3 rp0 rp1 rp2 rp3 xp0 xp1 xp2 pp_TX pp_TC => by
      have h8 := ih M0 (p1 + 1) x9_1 x9_3 x9_2 x6_4 x6_5 x6_3 T c0 z0 o w hP0 (by omega) (by omega) ex9_1 lx9_1 ux9_1 ex9_3 lx9_3 ux9_3 ex9_2 lx9_2 ux9_2 ex6_4 lx6_4 ux6_4 ex6_5 lx6_5 ux6_5 ex6_3 lx6_3 ux6_3 rp0 rp1 rp2 rp3 xp0 xp1 xp2 pp_TX pp_TC (by omega) (d3 - (26 + 6 * j - 20))
      rw [show d3 - (26 + 6 * j - 20) + (26 + 6 * j) = d3 + 20 by omega] at h8
      exact h8)
    rw [show d + 6 * (j + 1) + 26 = d + (26 + 6 * (j + 1)) by omega] at h9
    exact h9
theorem n7158_6E {B : eB} (d : Nat) (M0 : Mm) (p1 : Int) (x9_1 : Int) (x9_3 : Int) (x9_2 : Int) (x6_4 : Int) (x6_5 : Int) (x6_3 : Int) (T : Int → Int) (c0 : Cg) (z0 : Og) (o : List Int) (w : List Int) (hP0 : Pw M0) (l1 : 0 ≤ p1) (u1 : p1 ≤ 6) (ex9_1 : M0 9 1 = x9_1) (lx9_1 : 0 ≤ x9_1) (ux9_1 : x9_1 ≤ 500) (ex9_3 : M0 9 3 = x9_3) (lx9_3 : 0 ≤ x9_3) (ux9_3 : x9_3 ≤ 500) (ex9_2 : M0 9 2 = x9_2) (lx9_2 : 0 ≤ x9_2) (ux9_2 : x9_2 ≤ 500) (ex6_4 : M0 6 4 = x6_4) (lx6_4 : 0 ≤ x6_4) (ux6_4 : x6_4 ≤ 6) (ex6_5 : M0 6 5 = x6_5) (lx6_5 : (-1) ≤ x6_5) (ux6_5 : x6_5 ≤ 500) (ex6_3 : M0 6 3 = x6_3) (lx6_3 : (-1) ≤ x6_3) (ux6_3 : x6_3 ≤ 7) (rp0 : 0 ≤ x9_1 + (-1) * x9_2) (rp1 : 0 ≤ x9_2 + (-1) * x9_3) (rp2 : 0 ≤ x9_1 + (-1) * x9_3) (rp3 : 0 ≤ (-1) * x6_3 + 7) (xp0 : RQ T x9_1 x6_3 (c0, z0) ((0, p1, x9_3, 0), (o, w))) (xp1 : fix 1 w) (xp2 : 2 * ((CLm M0).length : Int) ≤ x9_3 + 2) (pp_TX : TXP T M0) (pp_TC : TCP T M0) : Ct B (d + 62) 158 [R 6, I p1] M0 (qI fun z M => Pw M ∧ Fr fm_n7158_6E M0 M ∧ 0 ≤ z ∧ z ≤ 1 ∧ 0 ≤ M 9 3 + (-1) * x9_3 ∧ 0 ≤ x9_1 + (-1) * (M 9 3) ∧ 0 ≤ x9_1 + (-1) * (M 9 2) ∧ 0 ≤ M 9 2 + (-1) * (M 9 3) ∧ 0 ≤ M 6 4 ∧ 0 ≤ M 6 5 + 1 ∧ (z = 1 → 0 ≤ M 6 4 + (-1) * x6_4) ∧ (z = 1 → 0 ≤ (-1) * (M 6 4) + x6_4) ∧ (z = 1 → 0 ≤ M 6 5 + (-1) * x6_5) ∧ (z = 1 → 0 ≤ (-1) * (M 6 5) + x6_5) ∧ ((z = 1 ∧ XN T x9_1 x6_3 c0 z0 (p1 + 1) (M 9 3) o w 1 (CLm M0) (CLm M) (13 - 2 * p1) x9_3 ∧ kw T x9_1 (M 9 3) ≠ 12 ∧ kw T x9_1 (M 9 3) ≠ 13) ∨ (z = 0 ∧ Rch T x9_1 x6_3 c0 (3, 0, M 6 5, M 6 4))) ∧ (TXP T M) ∧ (TCP T M) ∧ (OCe M M0)) := n7158_6_c 6 M0 p1 x9_1 x9_3 x9_2 x6_4 x6_5 x6_3 T c0 z0 o w hP0 l1 u1 ex9_1 lx9_1 ux9_1 ex9_3 lx9_3 ux9_3 ex9_2 lx9_2 ux9_2 ex6_4 lx6_4 ux6_4 ex6_5 lx6_5 ux6_5 ex6_3 lx6_3 ux6_3 rp0 rp1 rp2 rp3 xp0 xp1 xp2 pp_TX pp_TC (by omega) d
def fm_n7170_6 : Nat := 4222648099799040
/-- IslandHall$Parser.readSentence -/
theorem n7170_6 {B : eB} (d : Nat) (M0 : Mm) (p1 : Int) (p2 : Int) (c3 : Int) (T : Int → Int) (hP0 : Pw M0) (l1 : 0 ≤ p1) (u1 : p1 ≤ 500) (l2 : 0 ≤ p2) (u2 : p2 ≤ 7) (hC3 : isC c3) (xp0 : ∀ k : Int, 0 ≤ k → k < p1 → (0 ≤ M0 1 k → T k = M0 1 k) ∧ (M0 1 k < 0 → -128 ≤ M0 1 k ∧ T k = M0 1 k + 256)) : Ct B (d + 63) 170 [R 6, I p1, I p2, R c3] M0 (qI fun z M => Pw M ∧ Fr fm_n7170_6 M0 M ∧ 0 ≤ z ∧ z ≤ 6 ∧ (SO T p1 p2 z (M 6 5)) ∧ (z = 0 → CDX T p1 p2 (CL M c3)) ∧ (∀ c : Int, isC c → c ≠ c3 → CL M c = CL M0 c)) := by
  refine ct_of (d := d + 62) (k := 0) (L := [some (R 6), some (I p1), some (I p2), some (R c3)]) rfl rfl rfl ?_
  have hF0 := Fr.rf fm_n7170_6 M0
  generalize hQ : (qI fun z M => Pw M ∧ Fr fm_n7170_6 M0 M ∧ 0 ≤ z ∧ z ≤ 6 ∧ (SO T p1 p2 z (M 6 5)) ∧ (z = 0 → CDX T p1 p2 (CL M c3)) ∧ (∀ c : Int, isC c → c ≠ c3 → CL M c = CL M0 c)) = Q
  refine wk_al0 r170_0 (wk_il1 r170_1 (wk_al3 r170_2 (wk_cv3 r170_3 kc_6_154 rfl (n7154_6 _ M0 p1 c3 T hP0 (by first | with_reducible assumption | omega) (by first | with_reducible assumption | omega) hC3 (xp0)) (cqV ?_))))
  rintro M1 ⟨hP2, hQ3, h5, h6, h7, h8, h9, h10, h11, h12, h13, h14, xh15, xh16, pr17, pr18⟩
  have hF4 : Fr fm_n7170_6 M0 M1 := hF0.tr hQ3 rfl
  obtain ⟨v19, e20⟩ : ∃ v, M1 9 1 = v := ⟨_, rfl⟩
  have h21 := (bf_9_1 hP2).1; rw [e20] at h21
  have h22 := (bf_9_1 hP2).2; rw [e20] at h22
  obtain ⟨v23, e24⟩ : ∃ v, M1 9 3 = v := ⟨_, rfl⟩
  have h25 := (bf_9_3 hP2).1; rw [e24] at h25
  have h26 := (bf_9_3 hP2).2; rw [e24] at h26
  obtain ⟨v27, e28⟩ : ∃ v, M1 9 2 = v := ⟨_, rfl⟩
  have h29 := (bf_9_2 hP2).1; rw [e28] at h29
  have h30 := (bf_9_2 hP2).2; rw [e28] at h30
  obtain ⟨v31, e32⟩ : ∃ v, M1 6 4 = v := ⟨_, rfl⟩
  have h33 := (bf_6_4 hP2).1; rw [e32] at h33
  have h34 := (bf_6_4 hP2).2; rw [e32] at h34
  obtain ⟨v35, e36⟩ : ∃ v, M1 6 5 = v := ⟨_, rfl⟩
  have h37 := (bf_6_5 hP2).1; rw [e36] at h37
  have h38 := (bf_6_5 hP2).2; rw [e36] at h38
  refine wk_al3 r170_6 (wk_cv1 r170_7 (kcC_141 hC3) rfl (n7141 _ M1 c3 hP2 hC3) (cqV ?_))
  rintro M39 ⟨hP40, hQ41, xh43, xh44⟩
  have hF42 : Fr fm_n7170_6 M0 M39 := hF4.tr hQ41 rfl
  have pr45 : CLe M39 ([] : List Int) := ⟨by rw [((hQ41.at g_6_2 rfl).trans xh16)]; exact hC3, by unfold CLm; rw [((hQ41.at g_6_2 rfl).trans xh16)]; exact xh44⟩
  obtain ⟨Mb, hMb⟩ : ∃ m : Mm, m = M39 := ⟨_, rfl⟩
  have hOb : ∀ c : Int, isC c → c ≠ c3 → CL Mb c = CL M0 c := fun c hc hn => by rw [hMb]; exact (xh43 c hc hn).trans (CL_cg (hQ3.at (g_c1 hc) rfl) (fun k => hQ3.at (g_cs hc k) rfl))
  have h6b : Mb 6 2 = c3 := by rw [hMb]; exact ((hQ41.at g_6_2 rfl).trans xh16)
  have pr46 : OCe M39 Mb := by rw [hMb]; exact OCe_rf _
  refine wk_al0 r170_10 (wk_il2 r170_11 (wk_putfi81 r170_12 fd_6_3 (wk_nw g_6_3 rfl hP40 hF42 (uf_6_3 ⟨by omega, by omega⟩) ?_)))
  intro M47 hP48 hF49 e50
  have e9 : v19 = p1 := by omega
  have r0 : RQ T v19 p2 (((0 : Int), (0 : Int), sk T p1 0, (0 : Int)), (([], []) : Og)) ((0, 0, v23, 0), ([], [])) := by rw [show v23 = sk T p1 0 by have := (mUp_no e50 ((hQ41.at g_9_3 rfl).trans e24) (Or.inl (by decide))); omega]; exact RQ.rf _
  refine wk_al0 r170_15 (wk_c1 r170_16 (wk_cv2 r170_17 kc_6_158 rfl (n7158_6E _ M47 0 v19 v23 v27 v31 v35 p2 T (((0 : Int), (0 : Int), sk T p1 0, (0 : Int))) ((([], []) : Og)) (([] : List Int)) (([] : List Int)) hP48 (by decide) (by decide) (mUp_no e50 ((hQ41.at g_9_1 rfl).trans e20) (Or.inl (by decide))) (by first | with_reducible assumption | omega) (by first | with_reducible assumption | omega) (mUp_no e50 ((hQ41.at g_9_3 rfl).trans e24) (Or.inl (by decide))) (by first | with_reducible assumption | omega) (by first | with_reducible assumption | omega) (mUp_no e50 ((hQ41.at g_9_2 rfl).trans e28) (Or.inl (by decide))) (by first | with_reducible assumption | omega) (by first | with_reducible assumption | omega) (mUp_no e50 ((hQ41.at g_6_4 rfl).trans e32) (Or.inr (by decide))) (by first | with_reducible assumption | omega) (by first | with_reducible assumption | omega) (mUp_no e50 ((hQ41.at g_6_5 rfl).trans e36) (Or.inr (by decide))) (by first | with_reducible assumption | omega) (by first | with_reducible assumption | omega) (mUp_at e50) (by first | with_reducible assumption | omega) (by first | with_reducible assumption | omega) (by omega) (by omega) (by omega) (by omega) (r0) (fix_n 1) (CLe_len (CLe_sm (Sm.up e50 g_6_3 rfl) pr45) (by have := (show (([] : List Int).length : Int) = 0 from rfl); omega)) (TXP_sm (Sm.up e50 g_6_3 rfl) (TXP_sm (Sm.fr hQ41 rfl) pr17)) (TCP_sm (Sm.up e50 g_6_3 rfl) (TCP_sm (Sm.fr hQ41 rfl) pr18))) (cqI ?_)))
  rintro v69 M51 ⟨hP52, hQ53, h70, h71, h55, h56, h57, h58, h59, h60, h61, h62, h63, h64, xh65, pr66, pr67, pr68⟩
  have hF54 : Fr fm_n7170_6 M0 M51 := hF49.tr hQ53 rfl
  have pr72 : OCe M51 Mb := OCe_tr pr68 (OCe_sm (Sm.up e50 g_6_3 rfl) pr46)
  obtain ⟨v73, e74⟩ : ∃ v, M51 9 3 = v := ⟨_, rfl⟩
  have h75 := (bf_9_3 hP52).1; rw [e74] at h75
  have h76 := (bf_9_3 hP52).2; rw [e74] at h76
  obtain ⟨v77, e78⟩ : ∃ v, M51 9 2 = v := ⟨_, rfl⟩
  have h79 := (bf_9_2 hP52).1; rw [e78] at h79
  have h80 := (bf_9_2 hP52).2; rw [e78] at h80
  obtain ⟨v81, e82⟩ : ∃ v, M51 6 4 = v := ⟨_, rfl⟩
  have h83 := (bf_6_4 hP52).1; rw [e82] at h83
  have h84 := (bf_6_4 hP52).2; rw [e82] at h84
  obtain ⟨v85, e86⟩ : ∃ v, M51 6 5 = v := ⟨_, rfl⟩
  have h87 := (bf_6_5 hP52).1; rw [e86] at h87
  have h88 := (bf_6_5 hP52).2; rw [e86] at h88
  refine wk_ifeq r170_20 ⟨by omega, by omega⟩ ?_ ?_
  · intro h89
    clear h61 h62 h63 h64
    refine wk_al0 r170_48 (wk_getfi r170_49 fd_6_4 e82 ?_)
    subst hQ; exact wk_iret r170_52 (⟨rfl, _, rfl, hP52, hF54, by omega, by omega, by rw [e86]; exact SO_f (or_r xh65 (by omega)) e9 (by omega) (by omega), fun q => absurd q (by have q7 := F_nz (or_r xh65 (by omega)); have := e82; omega), fun c hc hn => ((pr72).2 c hc (by rw [h6b]; exact hn)).trans (hOb c hc hn)⟩)
  · intro h90
    replace h61 := h61 (z1_of h70 h71 h90)
    replace h62 := h62 (z1_of h70 h71 h90)
    replace h63 := h63 (z1_of h70 h71 h90)
    replace h64 := h64 (z1_of h70 h71 h90)
    have r2 := or_l xh65 (by omega); rw [e74, ((CLe_sm (Sm.up e50 g_6_3 rfl) pr45)).2] at r2
    have pr91 : CLe M51 (CLm M51) := ⟨pcE hP52, rfl⟩
    refine wk_al0 r170_23 (wk_c2 r170_24 (wk_cv2 r170_26 kc_6_174 rfl (n7174_6 _ M51 59 v19 v73 v77 v81 v85 T hP52 (by decide) (by decide) ((hQ53.at g_9_1 rfl).trans (mUp_no e50 ((hQ41.at g_9_1 rfl).trans e20) (Or.inl (by decide)))) (by first | with_reducible assumption | omega) (by first | with_reducible assumption | omega) e74 (by first | with_reducible assumption | omega) (by first | with_reducible assumption | omega) e78 (by first | with_reducible assumption | omega) (by first | with_reducible assumption | omega) e82 (by first | with_reducible assumption | omega) (by first | with_reducible assumption | omega) e86 (by first | with_reducible assumption | omega) (by first | with_reducible assumption | omega) (by omega) (by omega) (by omega) pr66 pr67) (cqI ?_)))
    rintro v109 M92 ⟨hP93, hQ94, h110, h111, h96, h97, h98, h99, h100, h101, h102, h103, h104, h105, xh106, pr107, pr108⟩
    have hF95 : Fr fm_n7170_6 M0 M92 := hF54.tr hQ94 rfl
    obtain ⟨v112, e113⟩ : ∃ v, M92 9 3 = v := ⟨_, rfl⟩
    have h114 := (bf_9_3 hP93).1; rw [e113] at h114
    have h115 := (bf_9_3 hP93).2; rw [e113] at h115
    obtain ⟨v116, e117⟩ : ∃ v, M92 9 2 = v := ⟨_, rfl⟩
    have h118 := (bf_9_2 hP93).1; rw [e117] at h118
    have h119 := (bf_9_2 hP93).2; rw [e117] at h119
    obtain ⟨v120, e121⟩ : ∃ v, M92 6 4 = v := ⟨_, rfl⟩
    have h122 := (bf_6_4 hP93).1; rw [e121] at h122
    have h123 := (bf_6_4 hP93).2; rw [e121] at h123
    obtain ⟨v124, e125⟩ : ∃ v, M92 6 5 = v := ⟨_, rfl⟩
    have h126 := (bf_6_5 hP93).1; rw [e125] at h126
    have h127 := (bf_6_5 hP93).2; rw [e125] at h127
    refine wk_ifeq r170_29 ⟨by omega, by omega⟩ ?_ ?_
    · intro h128
      clear h102 h103 h104 h105
      refine wk_al0 r170_48 (wk_getfi r170_49 fd_6_4 e121 ?_)
      subst hQ; exact wk_iret r170_52 (⟨rfl, _, rfl, hP93, hF95, by omega, by omega, by rw [e125]; exact SO_3 (X_e (XN_r r2.1) (by have := r2.2; omega) (by decide) rfl) e9 (by omega) (by omega) (by omega), fun q => absurd q (by omega), fun c hc hn => (((OCe_sm (Sm.fr hQ94 rfl) pr72)).2 c hc (by rw [h6b]; exact hn)).trans (hOb c hc hn)⟩)
    · intro h129
      replace h102 := h102 (z1_of h110 h111 h129)
      replace h103 := h103 (z1_of h110 h111 h129)
      replace h104 := h104 (z1_of h110 h111 h129)
      replace h105 := h105 (z1_of h110 h111 h129)
      have hq8 : TCP T M92 := pr108
      have hk1 : M92 9 1 = v19 := ((hQ94.at g_9_1 rfl).trans ((hQ53.at g_9_1 rfl).trans (mUp_no e50 ((hQ41.at g_9_1 rfl).trans e20) (Or.inl (by decide)))))
      have hk3 : M92 9 3 = v112 := e113
      refine wk_al0 r170_32 (wk_getfr r170_33 fd_6_0 (br_6_0 hP93) (wk_getfb r170_36 fd_9_4 (bf_9_4 hP93) ?_))
      intro v130 h132 h133 e131
      refine wk_ifeq r170_39 ⟨by omega, by omega⟩ ?_ ?_
      · intro h134
        refine wk_al0 r170_48 (wk_getfi r170_49 fd_6_4 e121 ?_)
        subst hQ; exact wk_iret r170_52 (⟨rfl, _, rfl, hP93, hF95, by omega, by omega, by rw [e125]; exact SO_1 (v2 := v112) (X_e (XN_r r2.1) (by have := r2.2; omega) (by decide) rfl) e9 (by omega) (by omega) (by have q8 := hq8; unfold TCP at q8; rw [hk1, hk3] at q8; omega) (by omega) (by omega), fun _ => CDX_of r2.1 rfl rfl e9 (by have := r2.2; omega) (by rw [← ((hQ94.at g_6_2 rfl).trans ((hQ53.at g_6_2 rfl).trans (mUp_no e50 ((hQ41.at g_6_2 rfl).trans xh16) (Or.inr (by decide)))))]; exact ((CLe_sm (Sm.fr hQ94 rfl) pr91)).2) (by decide), fun c hc hn => (((OCe_sm (Sm.fr hQ94 rfl) pr72)).2 c hc (by rw [h6b]; exact hn)).trans (hOb c hc hn)⟩)
      · intro h135
        refine wk_al0 r170_42 (wk_c1 r170_43 (wk_cv2 r170_44 kc_6_159 rfl (n7159_6 _ M92 1 v112 hP93 (by decide) (by decide) e113 (by first | with_reducible assumption | omega) (by first | with_reducible assumption | omega)) (cqI ?_)))
        rintro v144 M136 ⟨hP137, hQ138, h145, h146, h140, h141, h142, h143⟩
        have hF139 : Fr fm_n7170_6 M0 M136 := hF95.tr hQ138 rfl
        obtain ⟨v147, e148⟩ : ∃ v, M136 6 4 = v := ⟨_, rfl⟩
        have h149 := (bf_6_4 hP137).1; rw [e148] at h149
        have h150 := (bf_6_4 hP137).2; rw [e148] at h150
        obtain ⟨v151, e152⟩ : ∃ v, M136 6 5 = v := ⟨_, rfl⟩
        have h153 := (bf_6_5 hP137).1; rw [e152] at h153
        have h154 := (bf_6_5 hP137).2; rw [e152] at h154
        refine wk_popi r170_47 (wk_al0 r170_48 (wk_getfi r170_49 fd_6_4 e148 ?_))
        subst hQ; exact wk_iret r170_52 (⟨rfl, _, rfl, hP137, hF139, by omega, by omega, by rw [e152]; exact SO_2 (v2 := v112) (X_e (XN_r r2.1) (by have := r2.2; omega) (by decide) rfl) e9 (by omega) (by omega) (by have q8 := hq8; unfold TCP at q8; rw [hk1, hk3] at q8; omega) (by omega) (by omega), fun q => absurd q (by omega), fun c hc hn => (((OCe_sm (Sm.fr hQ138 rfl) (OCe_sm (Sm.fr hQ94 rfl) pr72))).2 c hc (by rw [h6b]; exact hn)).trans (hOb c hc hn)⟩)
