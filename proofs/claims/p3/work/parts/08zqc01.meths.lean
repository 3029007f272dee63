/-! ===== written by program (wip/layer4) ===== -/
def fm_m7243 : Nat := 0
/-- IslandHall$Tokens.typeOf -/
theorem m7243 {B : eB} (d : Nat) (M0 : Mm) (p0 : Int) (hP0 : Pw M0) (l0 : (-128) ≤ p0) (u0 : p0 ≤ 127) : Ct B (d + 1) 243 [I p0] M0 (qI fun z M => Pw M ∧ Fr fm_m7243 M0 M ∧ 1 ≤ z ∧ z ≤ 4 ∧ (z = tyF p0)) := by
  refine ct_of (d := d + 0) (k := 1) (L := [some (I p0), none]) rfl rfl rfl ?_
  have hF0 := Fr.rf fm_m7243 M0
  generalize hQ : (qI fun z M => Pw M ∧ Fr fm_m7243 M0 M ∧ 1 ≤ z ∧ z ≤ 4 ∧ (z = tyF p0)) = Q
  refine wk_il0 r243_0 (wk_c2 r243_1 ?_)
  refine wk_iclt r243_3 ⟨by omega, by omega⟩ (by decide) ?_ ?_
  · intro h1
    refine wk_il0 r243_14 (wk_c2 r243_15 ?_)
    refine wk_iclt r243_17 ⟨by omega, by omega⟩ (by decide) ?_ ?_
    · intro h2
      refine wk_il0 r243_28 (wk_c2 r243_29 ?_)
      refine wk_iceq r243_31 ⟨by omega, by omega⟩ (by decide) ?_ ?_
      · intro h3
        exfalso
        omega
      · intro h4
        refine wk_il0 r243_34 (wk_c2 r243_35 ?_)
        refine wk_iceq r243_37 ⟨by omega, by omega⟩ (by decide) ?_ ?_
        · intro h5
          refine wk_c1 r243_64 (wk_goto r243_65 (wk_is1 r243_69 rfl (wk_il1 r243_70 ?_)))
          refine wk_ifeq r243_71 (by decide) ?_ ?_
          · intro h6
            exfalso
            omega
          · intro h7
            refine wk_c1 r243_74 (wk_goto r243_75 ?_)
            subst hQ; exact wk_iret r243_79 (⟨rfl, _, rfl, hP0, hF0, by omega, by omega, (tyF_3.mpr (by omega)).symm⟩)
        · intro h8
          refine wk_il0 r243_40 (wk_c2 r243_41 ?_)
          refine wk_iceq r243_43 ⟨by omega, by omega⟩ (by decide) ?_ ?_
          · intro h9
            refine wk_c1 r243_64 (wk_goto r243_65 (wk_is1 r243_69 rfl (wk_il1 r243_70 ?_)))
            refine wk_ifeq r243_71 (by decide) ?_ ?_
            · intro h10
              exfalso
              omega
            · intro h11
              refine wk_c1 r243_74 (wk_goto r243_75 ?_)
              subst hQ; exact wk_iret r243_79 (⟨rfl, _, rfl, hP0, hF0, by omega, by omega, (tyF_3.mpr (by omega)).symm⟩)
          · intro h12
            refine wk_il0 r243_46 (wk_c2 r243_47 ?_)
            refine wk_iceq r243_49 ⟨by omega, by omega⟩ (by decide) ?_ ?_
            · intro h13
              exfalso
              omega
            · intro h14
              refine wk_il0 r243_52 (wk_c2 r243_53 ?_)
              refine wk_iceq r243_55 ⟨by omega, by omega⟩ (by decide) ?_ ?_
              · intro h15
                exfalso
                omega
              · intro h16
                refine wk_il0 r243_58 (wk_c2 r243_59 ?_)
                refine wk_icne r243_61 ⟨by omega, by omega⟩ (by decide) ?_ ?_
                · intro h17
                  refine wk_c1 r243_68 (wk_is1 r243_69 rfl (wk_il1 r243_70 ?_))
                  refine wk_ifeq r243_71 (by decide) ?_ ?_
                  · intro h18
                    refine wk_c1 r243_78 ?_
                    subst hQ; exact wk_iret r243_79 (⟨rfl, _, rfl, hP0, hF0, by omega, by omega, (tyF_4.mpr (by omega)).symm⟩)
                  · intro h19
                    exfalso
                    omega
                · intro h20
                  exfalso
                  omega
    · intro h21
      refine wk_il0 r243_20 (wk_c2 r243_21 ?_)
      refine wk_icgt r243_23 ⟨by omega, by omega⟩ (by decide) ?_ ?_
      · intro h22
        refine wk_il0 r243_28 (wk_c2 r243_29 ?_)
        refine wk_iceq r243_31 ⟨by omega, by omega⟩ (by decide) ?_ ?_
        · intro h23
          refine wk_c1 r243_64 (wk_goto r243_65 (wk_is1 r243_69 rfl (wk_il1 r243_70 ?_)))
          refine wk_ifeq r243_71 (by decide) ?_ ?_
          · intro h24
            exfalso
            omega
          · intro h25
            refine wk_c1 r243_74 (wk_goto r243_75 ?_)
            subst hQ; exact wk_iret r243_79 (⟨rfl, _, rfl, hP0, hF0, by omega, by omega, (tyF_3.mpr (by omega)).symm⟩)
        · intro h26
          refine wk_il0 r243_34 (wk_c2 r243_35 ?_)
          refine wk_iceq r243_37 ⟨by omega, by omega⟩ (by decide) ?_ ?_
          · intro h27
            exfalso
            omega
          · intro h28
            refine wk_il0 r243_40 (wk_c2 r243_41 ?_)
            refine wk_iceq r243_43 ⟨by omega, by omega⟩ (by decide) ?_ ?_
            · intro h29
              exfalso
              omega
            · intro h30
              refine wk_il0 r243_46 (wk_c2 r243_47 ?_)
              refine wk_iceq r243_49 ⟨by omega, by omega⟩ (by decide) ?_ ?_
              · intro h31
                refine wk_c1 r243_64 (wk_goto r243_65 (wk_is1 r243_69 rfl (wk_il1 r243_70 ?_)))
                refine wk_ifeq r243_71 (by decide) ?_ ?_
                · intro h32
                  exfalso
                  omega
                · intro h33
                  refine wk_c1 r243_74 (wk_goto r243_75 ?_)
                  subst hQ; exact wk_iret r243_79 (⟨rfl, _, rfl, hP0, hF0, by omega, by omega, (tyF_3.mpr (by omega)).symm⟩)
              · intro h34
                refine wk_il0 r243_52 (wk_c2 r243_53 ?_)
                refine wk_iceq r243_55 ⟨by omega, by omega⟩ (by decide) ?_ ?_
                · intro h35
                  refine wk_c1 r243_64 (wk_goto r243_65 (wk_is1 r243_69 rfl (wk_il1 r243_70 ?_)))
                  refine wk_ifeq r243_71 (by decide) ?_ ?_
                  · intro h36
                    exfalso
                    omega
                  · intro h37
                    refine wk_c1 r243_74 (wk_goto r243_75 ?_)
                    subst hQ; exact wk_iret r243_79 (⟨rfl, _, rfl, hP0, hF0, by omega, by omega, (tyF_3.mpr (by omega)).symm⟩)
                · intro h38
                  refine wk_il0 r243_58 (wk_c2 r243_59 ?_)
                  refine wk_icne r243_61 ⟨by omega, by omega⟩ (by decide) ?_ ?_
                  · intro h39
                    refine wk_c1 r243_68 (wk_is1 r243_69 rfl (wk_il1 r243_70 ?_))
                    refine wk_ifeq r243_71 (by decide) ?_ ?_
                    · intro h40
                      refine wk_c1 r243_78 ?_
                      subst hQ; exact wk_iret r243_79 (⟨rfl, _, rfl, hP0, hF0, by omega, by omega, (tyF_4.mpr (by omega)).symm⟩)
                    · intro h41
                      exfalso
                      omega
                  · intro h42
                    refine wk_c1 r243_64 (wk_goto r243_65 (wk_is1 r243_69 rfl (wk_il1 r243_70 ?_)))
                    refine wk_ifeq r243_71 (by decide) ?_ ?_
                    · intro h43
                      exfalso
                      omega
                    · intro h44
                      refine wk_c1 r243_74 (wk_goto r243_75 ?_)
                      subst hQ; exact wk_iret r243_79 (⟨rfl, _, rfl, hP0, hF0, by omega, by omega, (tyF_3.mpr (by omega)).symm⟩)
      · intro h45
        refine wk_c1 r243_26 ?_
        subst hQ; exact wk_iret r243_27 (⟨rfl, _, rfl, hP0, hF0, by omega, by omega, (tyF_2.mpr (by omega)).symm⟩)
  · intro h46
    refine wk_il0 r243_6 (wk_c2 r243_7 ?_)
    refine wk_icgt r243_9 ⟨by omega, by omega⟩ (by decide) ?_ ?_
    · intro h47
      refine wk_il0 r243_14 (wk_c2 r243_15 ?_)
      refine wk_iclt r243_17 ⟨by omega, by omega⟩ (by decide) ?_ ?_
      · intro h48
        exfalso
        omega
      · intro h49
        refine wk_il0 r243_20 (wk_c2 r243_21 ?_)
        refine wk_icgt r243_23 ⟨by omega, by omega⟩ (by decide) ?_ ?_
        · intro h50
          refine wk_il0 r243_28 (wk_c2 r243_29 ?_)
          refine wk_iceq r243_31 ⟨by omega, by omega⟩ (by decide) ?_ ?_
          · intro h51
            exfalso
            omega
          · intro h52
            refine wk_il0 r243_34 (wk_c2 r243_35 ?_)
            refine wk_iceq r243_37 ⟨by omega, by omega⟩ (by decide) ?_ ?_
            · intro h53
              exfalso
              omega
            · intro h54
              refine wk_il0 r243_40 (wk_c2 r243_41 ?_)
              refine wk_iceq r243_43 ⟨by omega, by omega⟩ (by decide) ?_ ?_
              · intro h55
                exfalso
                omega
              · intro h56
                refine wk_il0 r243_46 (wk_c2 r243_47 ?_)
                refine wk_iceq r243_49 ⟨by omega, by omega⟩ (by decide) ?_ ?_
                · intro h57
                  exfalso
                  omega
                · intro h58
                  refine wk_il0 r243_52 (wk_c2 r243_53 ?_)
                  refine wk_iceq r243_55 ⟨by omega, by omega⟩ (by decide) ?_ ?_
                  · intro h59
                    exfalso
                    omega
                  · intro h60
                    refine wk_il0 r243_58 (wk_c2 r243_59 ?_)
                    refine wk_icne r243_61 ⟨by omega, by omega⟩ (by decide) ?_ ?_
                    · intro h61
                      refine wk_c1 r243_68 (wk_is1 r243_69 rfl (wk_il1 r243_70 ?_))
                      refine wk_ifeq r243_71 (by decide) ?_ ?_
                      · intro h62
                        refine wk_c1 r243_78 ?_
                        subst hQ; exact wk_iret r243_79 (⟨rfl, _, rfl, hP0, hF0, by omega, by omega, (tyF_4.mpr (by omega)).symm⟩)
                      · intro h63
                        exfalso
                        omega
                    · intro h64
                      exfalso
                      omega
        · intro h65
          exfalso
          omega
    · intro h66
      refine wk_c1 r243_12 ?_
      subst hQ; exact wk_iret r243_13 (⟨rfl, _, rfl, hP0, hF0, by omega, by omega, (tyF_1.mpr (by omega)).symm⟩)
def fm_m7241_9 : Nat := 3940649673949184
/-- IslandHall$Tokens.next -/
theorem m7241_9 {B : eB} (d : Nat) (M0 : Mm) (x9_1 : Int) (x9_2 : Int) (T : Int → Int) (hP0 : Pw M0) (ex9_1 : M0 9 1 = x9_1) (lx9_1 : 0 ≤ x9_1) (ux9_1 : x9_1 ≤ 500) (ex9_2 : M0 9 2 = x9_2) (lx9_2 : 0 ≤ x9_2) (ux9_2 : x9_2 ≤ 500) (rp0 : 0 ≤ x9_1 + (-1) * x9_2) (pp_TX : TXP T M0) : Ct B (d + 2) 241 [R 9] M0 (qV fun M => Pw M ∧ Fr fm_m7241_9 M0 M ∧ 0 ≤ M 9 3 + (-1) * x9_2 ∧ 0 ≤ x9_1 + (-1) * (M 9 3) ∧ 0 ≤ x9_1 + (-1) * (M 9 2) ∧ 0 ≤ M 9 2 + (-1) * (M 9 3) ∧ (M 9 3 = sk T x9_1 x9_2) ∧ (TXP T M) ∧ (TCP T M)) := by
  refine ct_of (d := d + 1) (k := 1) (L := [some (R 9), none]) rfl rfl rfl ?_
  have hF0 := Fr.rf fm_m7241_9 M0
  generalize hQ : (qV fun M => Pw M ∧ Fr fm_m7241_9 M0 M ∧ 0 ≤ M 9 3 + (-1) * x9_2 ∧ 0 ≤ x9_1 + (-1) * (M 9 3) ∧ 0 ≤ x9_1 + (-1) * (M 9 2) ∧ 0 ≤ M 9 2 + (-1) * (M 9 3) ∧ (M 9 3 = sk T x9_1 x9_2) ∧ (TXP T M) ∧ (TCP T M)) = Q
  refine wk_al0 r241_0 (wk_al0 r241_1 (wk_getfi r241_2 fd_9_2 ex9_2 (wk_putfi81 r241_5 fd_9_3 (wk_nw g_9_3 rfl hP0 hF0 (uf_9_3 ⟨by omega, by omega⟩) ?_))))
  intro M1 hP2 hF3 e4
  have c8_361 : ∀ (k361 : Nat) (M196 : Mm) (v199 : Int), (500 - v199).toNat = k361 → Pw M196 → Fr fm_m7241_9 M0 M196 → M196 9 3 = v199 → M196 9 1 = x9_1 → M196 9 2 = x9_2 → 0 ≤ v199 → v199 ≤ 500 → (TXP T M196) → 0 ≤ 1 * v199 + (-1) * x9_2 → 0 ≤ 1 * x9_1 + (-1) * v199 → 0 ≤ 1 * x9_1 + (-1) * x9_2 → (sk T x9_1 v199 = sk T x9_1 x9_2) → Wp B (d + 1) 241 8 [some (R 9), none] [] M196 Q := by
    refine lp_ind ?_
    intro k361 ih361 M196 v199 hk361 hP197 hF198 e202 e203 e204 h200 h201 pr205 h206 h207 h208 ti209
    refine wk_al0 r241_8 (wk_getfi r241_9 fd_9_3 e202 (wk_al0 r241_12 (wk_getfi r241_13 fd_9_1 e203 ?_)))
    have c60_360 : (v199 = sk T x9_1 x9_2) → Wp B (d + 1) 241 60 [some (R 9), none] [] M196 Q := by
      intro ti228
      refine wk_al0 r241_60 (wk_getfi r241_61 fd_9_3 e202 (wk_al0 r241_64 (wk_getfi r241_65 fd_9_1 e203 ?_)))
      refine wk_iclt r241_68 ⟨by omega, by omega⟩ ⟨by omega, by omega⟩ ?_ ?_
      · intro h229
        refine wk_al0 r241_85 (wk_al0 r241_86 (wk_getfr r241_87 fd_9_0 (br_9_0 hP197) (wk_al0 r241_90 (wk_getfi r241_91 fd_9_3 e202 (wk_baldb r241_94 ar_1 ⟨by omega, by omega⟩ (fun q0 q1 => ba_1 hP197 q0 q1) ?_)))))
        intro v230 h232 h233 e231
        refine wk_cs102_1 r241_95 rfl (m7243 _ M196 v230 hP197 (by first | with_reducible assumption | omega) (by first | with_reducible assumption | omega)) (cqI ?_)
        rintro v239 M234 ⟨hP235, hQ236, h240, h241, xh238⟩
        obtain rfl := Fr.same hQ236
        refine wk_putfi81 r241_98 fd_9_4 (wk_nw g_9_4 rfl hP197 hF198 (uf_9_4 ⟨by omega, by omega⟩) ?_)
        intro M242 hP243 hF244 e245
        have hty : v239 = tyF (T v199) := xh238.trans (tyF_T (by have q9 := pr205 v199 (by omega) (by rw [e203]; omega); rw [e231] at q9; exact q9) (by omega))
        refine wk_al0 r241_101 (wk_al0 r241_102 (wk_getfi r241_103 fd_9_3 (mUp_no e245 e202 (Or.inr (by decide))) (wk_c1 r241_106 (wk_iadd r241_107 (wk_putfi81 r241_108 fd_9_2 (wk_nw g_9_2 rfl hP243 hF244 (uf_9_2 ⟨by omega, by omega⟩) ?_))))))
        intro M246 hP247 hF248 e249
        refine wk_al0 r241_111 (wk_getfi r241_112 fd_9_4 (mUp_no e249 (mUp_at e245) (Or.inr (by decide))) (wk_c1 r241_115 ?_))
        refine wk_iceq r241_116 ⟨by omega, by omega⟩ (by decide) ?_ ?_
        · intro h250
          refine wk_c1 r241_127 (wk_goto r241_128 (wk_is1 r241_132 rfl ?_))
          have c133_289 : ∀ (k289 : Nat) (M251 : Mm) (v254 : Int), (500 - v254).toNat = k289 → Pw M251 → Fr fm_m7241_9 M0 M251 → M251 9 2 = v254 → M251 9 3 = v199 → M251 9 1 = x9_1 → M251 9 4 = v239 → 1 ≤ v254 → v254 ≤ 500 → (TXP T M251) → 0 ≤ 1 * v199 + (-1) * x9_2 → 0 ≤ 1 * x9_1 + (-1) * v199 → 0 ≤ 1 * v254 + (-1) * v199 + (-1) → 0 ≤ 1 * x9_1 + (-1) * v254 → ((1 = 1 ↔ v239 = 1 ∨ v239 = 2) ∧ (1 = 1 → en T x9_1 v239 v254 = en T x9_1 v239 (v199 + 1)) ∧ (1 = 0 → v254 = v199 + 1)) → Wp B (d + 1) 241 133 [some (R 9), some (I 1)] [] M251 Q := by
            refine lp_ind ?_
            intro k289 ih289 M251 v254 hk289 hP252 hF253 e257 e258 e259 e260 h255 h256 pr261 h262 h263 h264 h265 ti266
            refine wk_il1 r241_133 ?_
            refine wk_ifeq r241_134 (by decide) ?_ ?_
            · intro h267
              exfalso
              omega
            · intro h268
              refine wk_al0 r241_137 (wk_getfi r241_138 fd_9_2 e257 (wk_al0 r241_141 (wk_getfi r241_142 fd_9_1 e259 ?_)))
              refine wk_icge r241_145 ⟨by omega, by omega⟩ ⟨by omega, by omega⟩ ?_ ?_
              · intro h269
                subst hQ; exact wk_ret r241_180 (⟨rfl, hP252, hF253, by have := e258; omega, by have := e258; omega, by have := e257; omega, by have := e257; have := e258; omega, e258.trans ti228, pr261, TCP_1 e259 e258 e260 e257 ti228 (by omega) (by omega) (by omega) hty (by by_cases q9 : v239 = 1 ∨ v239 = 2; (exact Or.inr ⟨q9, by first | exact (en_e (by omega)).symm.trans ((ti266).2.1 (by omega)) | (have := (ti266).1; omega)⟩); (exact Or.inl ⟨q9, (ti266).2.2 (by have := (ti266).1; omega)⟩))⟩)
              · intro h270
                refine wk_al0 r241_148 (wk_getfr r241_149 fd_9_0 (br_9_0 hP252) (wk_al0 r241_152 (wk_getfi r241_153 fd_9_2 e257 (wk_baldb r241_156 ar_1 ⟨by omega, by omega⟩ (fun q0 q1 => ba_1 hP252 q0 q1) ?_))))
                intro v271 h273 h274 e272
                refine wk_cs102_1 r241_157 rfl (m7243 _ M251 v271 hP252 (by first | with_reducible assumption | omega) (by first | with_reducible assumption | omega)) (cqI ?_)
                rintro v280 M275 ⟨hP276, hQ277, h281, h282, xh279⟩
                obtain rfl := Fr.same hQ277
                refine wk_al0 r241_160 (wk_getfi r241_161 fd_9_4 e260 ?_)
                refine wk_icne r241_164 ⟨by omega, by omega⟩ ⟨by omega, by omega⟩ ?_ ?_
                · intro h283
                  subst hQ; exact wk_ret r241_180 (⟨rfl, hP252, hF253, by have := e258; omega, by have := e258; omega, by have := e257; omega, by have := e257; have := e258; omega, e258.trans ti228, pr261, TCP_1 e259 e258 e260 e257 ti228 (by omega) (by omega) (by omega) hty (by by_cases q9 : v239 = 1 ∨ v239 = 2; (exact Or.inr ⟨q9, by first | exact (en_n (by omega) (by rw [← tyF_T (by have q8 := pr261 v254 (by omega) (by rw [e259]; omega); rw [e272] at q8; exact q8) (by omega), ← xh279]; omega)).symm.trans ((ti266).2.1 (by omega)) | (have := (ti266).1; omega)⟩); (exact Or.inl ⟨q9, (ti266).2.2 (by have := (ti266).1; omega)⟩))⟩)
                · intro h284
                  refine wk_al0 r241_167 (wk_dupr r241_168 (wk_getfi r241_169 fd_9_2 e257 (wk_c1 r241_172 (wk_iadd r241_173 (wk_putfi81 r241_174 fd_9_2 (wk_nw g_9_2 rfl hP252 hF253 (uf_9_2 ⟨by omega, by omega⟩) ?_))))))
                  intro M285 hP286 hF287 e288
                  refine wk_goto r241_177 ?_
                  exact wp_fg (le_s (le_s le_0)) (ih289 (500 - (v254 + 1)).toNat (by omega) M285 (v254 + 1) rfl hP286 hF287 (mUp_at e288) (mUp_no e288 e258 (Or.inr (by decide))) (mUp_no e288 e259 (Or.inr (by decide))) (mUp_no e288 e260 (Or.inr (by decide))) (by first | with_reducible assumption | omega) (by first | with_reducible assumption | omega) (TXP_sm (Sm.up e288 g_9_2 rfl) pr261) (by first | with_reducible assumption | omega) (by first | with_reducible assumption | omega) (by first | with_reducible assumption | omega) (by first | with_reducible assumption | omega) (⟨by have := (ti266).1; omega, fun q9 => (en_b (by omega) (by rw [← tyF_T (by have q8 := pr261 v254 (by omega) (by rw [e259]; omega); rw [e272] at q8; exact q8) (by omega), ← xh279]; omega)).trans ((ti266).2.1 q9), fun q9 => by omega⟩))
          exact wp_fg (le_s (le_s le_0)) (c133_289 _ M246 (v199 + 1) rfl hP247 hF248 (mUp_at e249) (mUp_no e249 (mUp_no e245 e202 (Or.inr (by decide))) (Or.inr (by decide))) (mUp_no e249 (mUp_no e245 e203 (Or.inr (by decide))) (Or.inr (by decide))) (mUp_no e249 (mUp_at e245) (Or.inr (by decide))) (by first | with_reducible assumption | omega) (by first | with_reducible assumption | omega) (TXP_sm (Sm.up e249 g_9_2 rfl) (TXP_sm (Sm.up e245 g_9_4 rfl) pr205)) (by first | with_reducible assumption | omega) (by first | with_reducible assumption | omega) (by first | with_reducible assumption | omega) (by first | with_reducible assumption | omega) (⟨by omega, fun q9 => rfl, fun q9 => rfl⟩))
        · intro h290
          refine wk_al0 r241_119 (wk_getfi r241_120 fd_9_4 (mUp_no e249 (mUp_at e245) (Or.inr (by decide))) (wk_c1 r241_123 ?_))
          refine wk_icne r241_124 ⟨by omega, by omega⟩ (by decide) ?_ ?_
          · intro h291
            refine wk_c1 r241_131 (wk_is1 r241_132 rfl ?_)
            have c133_310 : ∀ (k310 : Nat) (M292 : Mm) (v295 : Int), ((0 : Int)).toNat = k310 → Pw M292 → Fr fm_m7241_9 M0 M292 → M292 9 2 = v295 → M292 9 3 = v199 → M292 9 1 = x9_1 → M292 9 4 = v239 → 1 ≤ v295 → v295 ≤ 500 → (TXP T M292) → 0 ≤ 1 * v199 + (-1) * x9_2 → 0 ≤ 1 * x9_1 + (-1) * v199 → 0 ≤ 1 * v295 + (-1) * v199 + (-1) → 0 ≤ 1 * x9_1 + (-1) * v295 → ((0 = 1 ↔ v239 = 1 ∨ v239 = 2) ∧ (0 = 1 → en T x9_1 v239 v295 = en T x9_1 v239 (v199 + 1)) ∧ (0 = 0 → v295 = v199 + 1)) → Wp B (d + 1) 241 133 [some (R 9), some (I 0)] [] M292 Q := by
              refine lp_ind ?_
              intro k310 ih310 M292 v295 hk310 hP293 hF294 e298 e299 e300 e301 h296 h297 pr302 h303 h304 h305 h306 ti307
              refine wk_il1 r241_133 ?_
              refine wk_ifeq r241_134 (by decide) ?_ ?_
              · intro h308
                subst hQ; exact wk_ret r241_180 (⟨rfl, hP293, hF294, by have := e299; omega, by have := e299; omega, by have := e298; omega, by have := e298; have := e299; omega, e299.trans ti228, pr302, TCP_1 e300 e299 e301 e298 ti228 (by omega) (by omega) (by omega) hty (by by_cases q9 : v239 = 1 ∨ v239 = 2; (exact Or.inr ⟨q9, by first | exact (en_e (by omega)).symm.trans ((ti307).2.1 (by omega)) | (have := (ti307).1; omega)⟩); (exact Or.inl ⟨q9, (ti307).2.2 (by have := (ti307).1; omega)⟩))⟩)
              · intro h309
                exfalso
                omega
            exact wp_fg (le_s (le_s le_0)) (c133_310 _ M246 (v199 + 1) rfl hP247 hF248 (mUp_at e249) (mUp_no e249 (mUp_no e245 e202 (Or.inr (by decide))) (Or.inr (by decide))) (mUp_no e249 (mUp_no e245 e203 (Or.inr (by decide))) (Or.inr (by decide))) (mUp_no e249 (mUp_at e245) (Or.inr (by decide))) (by first | with_reducible assumption | omega) (by first | with_reducible assumption | omega) (TXP_sm (Sm.up e249 g_9_2 rfl) (TXP_sm (Sm.up e245 g_9_4 rfl) pr205)) (by first | with_reducible assumption | omega) (by first | with_reducible assumption | omega) (by first | with_reducible assumption | omega) (by first | with_reducible assumption | omega) (⟨by omega, fun q9 => rfl, fun q9 => rfl⟩))
          · intro h311
            refine wk_c1 r241_127 (wk_goto r241_128 (wk_is1 r241_132 rfl ?_))
            have c133_350 : ∀ (k350 : Nat) (M312 : Mm) (v315 : Int), (500 - v315).toNat = k350 → Pw M312 → Fr fm_m7241_9 M0 M312 → M312 9 2 = v315 → M312 9 3 = v199 → M312 9 1 = x9_1 → M312 9 4 = v239 → 1 ≤ v315 → v315 ≤ 500 → (TXP T M312) → 0 ≤ 1 * v199 + (-1) * x9_2 → 0 ≤ 1 * x9_1 + (-1) * v199 → 0 ≤ 1 * v315 + (-1) * v199 + (-1) → 0 ≤ 1 * x9_1 + (-1) * v315 → ((1 = 1 ↔ v239 = 1 ∨ v239 = 2) ∧ (1 = 1 → en T x9_1 v239 v315 = en T x9_1 v239 (v199 + 1)) ∧ (1 = 0 → v315 = v199 + 1)) → Wp B (d + 1) 241 133 [some (R 9), some (I 1)] [] M312 Q := by
              refine lp_ind ?_
              intro k350 ih350 M312 v315 hk350 hP313 hF314 e318 e319 e320 e321 h316 h317 pr322 h323 h324 h325 h326 ti327
              refine wk_il1 r241_133 ?_
              refine wk_ifeq r241_134 (by decide) ?_ ?_
              · intro h328
                exfalso
                omega
              · intro h329
                refine wk_al0 r241_137 (wk_getfi r241_138 fd_9_2 e318 (wk_al0 r241_141 (wk_getfi r241_142 fd_9_1 e320 ?_)))
                refine wk_icge r241_145 ⟨by omega, by omega⟩ ⟨by omega, by omega⟩ ?_ ?_
                · intro h330
                  subst hQ; exact wk_ret r241_180 (⟨rfl, hP313, hF314, by have := e319; omega, by have := e319; omega, by have := e318; omega, by have := e318; have := e319; omega, e319.trans ti228, pr322, TCP_1 e320 e319 e321 e318 ti228 (by omega) (by omega) (by omega) hty (by by_cases q9 : v239 = 1 ∨ v239 = 2; (exact Or.inr ⟨q9, by first | exact (en_e (by omega)).symm.trans ((ti327).2.1 (by omega)) | (have := (ti327).1; omega)⟩); (exact Or.inl ⟨q9, (ti327).2.2 (by have := (ti327).1; omega)⟩))⟩)
                · intro h331
                  refine wk_al0 r241_148 (wk_getfr r241_149 fd_9_0 (br_9_0 hP313) (wk_al0 r241_152 (wk_getfi r241_153 fd_9_2 e318 (wk_baldb r241_156 ar_1 ⟨by omega, by omega⟩ (fun q0 q1 => ba_1 hP313 q0 q1) ?_))))
                  intro v332 h334 h335 e333
                  refine wk_cs102_1 r241_157 rfl (m7243 _ M312 v332 hP313 (by first | with_reducible assumption | omega) (by first | with_reducible assumption | omega)) (cqI ?_)
                  rintro v341 M336 ⟨hP337, hQ338, h342, h343, xh340⟩
                  obtain rfl := Fr.same hQ338
                  refine wk_al0 r241_160 (wk_getfi r241_161 fd_9_4 e321 ?_)
                  refine wk_icne r241_164 ⟨by omega, by omega⟩ ⟨by omega, by omega⟩ ?_ ?_
                  · intro h344
                    subst hQ; exact wk_ret r241_180 (⟨rfl, hP313, hF314, by have := e319; omega, by have := e319; omega, by have := e318; omega, by have := e318; have := e319; omega, e319.trans ti228, pr322, TCP_1 e320 e319 e321 e318 ti228 (by omega) (by omega) (by omega) hty (by by_cases q9 : v239 = 1 ∨ v239 = 2; (exact Or.inr ⟨q9, by first | exact (en_n (by omega) (by rw [← tyF_T (by have q8 := pr322 v315 (by omega) (by rw [e320]; omega); rw [e333] at q8; exact q8) (by omega), ← xh340]; omega)).symm.trans ((ti327).2.1 (by omega)) | (have := (ti327).1; omega)⟩); (exact Or.inl ⟨q9, (ti327).2.2 (by have := (ti327).1; omega)⟩))⟩)
                  · intro h345
                    refine wk_al0 r241_167 (wk_dupr r241_168 (wk_getfi r241_169 fd_9_2 e318 (wk_c1 r241_172 (wk_iadd r241_173 (wk_putfi81 r241_174 fd_9_2 (wk_nw g_9_2 rfl hP313 hF314 (uf_9_2 ⟨by omega, by omega⟩) ?_))))))
                    intro M346 hP347 hF348 e349
                    refine wk_goto r241_177 ?_
                    exact wp_fg (le_s (le_s le_0)) (ih350 (500 - (v315 + 1)).toNat (by omega) M346 (v315 + 1) rfl hP347 hF348 (mUp_at e349) (mUp_no e349 e319 (Or.inr (by decide))) (mUp_no e349 e320 (Or.inr (by decide))) (mUp_no e349 e321 (Or.inr (by decide))) (by first | with_reducible assumption | omega) (by first | with_reducible assumption | omega) (TXP_sm (Sm.up e349 g_9_2 rfl) pr322) (by first | with_reducible assumption | omega) (by first | with_reducible assumption | omega) (by first | with_reducible assumption | omega) (by first | with_reducible assumption | omega) (⟨by have := (ti327).1; omega, fun q9 => (en_b (by omega) (by rw [← tyF_T (by have q8 := pr322 v315 (by omega) (by rw [e320]; omega); rw [e333] at q8; exact q8) (by omega), ← xh340]; omega)).trans ((ti327).2.1 q9), fun q9 => by omega⟩))
            exact wp_fg (le_s (le_s le_0)) (c133_350 _ M246 (v199 + 1) rfl hP247 hF248 (mUp_at e249) (mUp_no e249 (mUp_no e245 e202 (Or.inr (by decide))) (Or.inr (by decide))) (mUp_no e249 (mUp_no e245 e203 (Or.inr (by decide))) (Or.inr (by decide))) (mUp_no e249 (mUp_at e245) (Or.inr (by decide))) (by first | with_reducible assumption | omega) (by first | with_reducible assumption | omega) (TXP_sm (Sm.up e249 g_9_2 rfl) (TXP_sm (Sm.up e245 g_9_4 rfl) pr205)) (by first | with_reducible assumption | omega) (by first | with_reducible assumption | omega) (by first | with_reducible assumption | omega) (by first | with_reducible assumption | omega) (⟨by omega, fun q9 => rfl, fun q9 => rfl⟩))
      · intro h351
        refine wk_al0 r241_71 (wk_c1 r241_72 (wk_putfi81 r241_73 fd_9_4 (wk_nw g_9_4 rfl hP197 hF198 (uf_9_4 (by decide)) ?_)))
        intro M352 hP353 hF354 e355
        refine wk_al0 r241_76 (wk_al0 r241_77 (wk_getfi r241_78 fd_9_3 (mUp_no e355 e202 (Or.inr (by decide))) (wk_putfi81 r241_81 fd_9_2 (wk_nw g_9_2 rfl hP353 hF354 (uf_9_2 ⟨by omega, by omega⟩) ?_))))
        intro M356 hP357 hF358 e359
        subst hQ; exact wk_ret r241_84 (⟨rfl, hP357, hF358, by have := (mUp_no e359 (mUp_no e355 e202 (Or.inr (by decide))) (Or.inr (by decide))); omega, by have := (mUp_no e359 (mUp_no e355 e202 (Or.inr (by decide))) (Or.inr (by decide))); omega, by have := (mUp_at e359); omega, by have := (mUp_at e359); have := (mUp_no e359 (mUp_no e355 e202 (Or.inr (by decide))) (Or.inr (by decide))); omega, (mUp_no e359 (mUp_no e355 e202 (Or.inr (by decide))) (Or.inr (by decide))).trans ti228, (TXP_sm (Sm.up e359 g_9_2 rfl) (TXP_sm (Sm.up e355 g_9_4 rfl) pr205)), TCP_0 (mUp_no e359 (mUp_no e355 e203 (Or.inr (by decide))) (Or.inr (by decide))) (mUp_no e359 (mUp_no e355 e202 (Or.inr (by decide))) (Or.inr (by decide))) (mUp_no e359 (mUp_at e355) (Or.inr (by decide))) (mUp_at e359) ti228 (by omega) (by omega) (by omega)⟩)
    refine wk_icge r241_16 ⟨by omega, by omega⟩ ⟨by omega, by omega⟩ ?_ ?_
    · intro h210
      exact wp_fg (le_s (le_s le_0)) (c60_360 (((sk_e (by omega)).symm.trans ti209)))
    · intro h211
      refine wk_al0 r241_19 (wk_getfr r241_20 fd_9_0 (br_9_0 hP197) (wk_al0 r241_23 (wk_getfi r241_24 fd_9_3 e202 (wk_baldb r241_27 ar_1 ⟨by omega, by omega⟩ (fun q0 q1 => ba_1 hP197 q0 q1) ?_))))
      intro v212 h214 h215 e213
      refine wk_c2 r241_28 ?_
      refine wk_iceq r241_30 ⟨by omega, by omega⟩ (by decide) ?_ ?_
      · intro h216
        refine wk_al0 r241_47 (wk_dupr r241_48 (wk_getfi r241_49 fd_9_3 e202 (wk_c1 r241_52 (wk_iadd r241_53 (wk_putfi81 r241_54 fd_9_3 (wk_nw g_9_3 rfl hP197 hF198 (uf_9_3 ⟨by omega, by omega⟩) ?_))))))
        intro M217 hP218 hF219 e220
        refine wk_goto r241_57 ?_
        exact wp_fg (le_s (le_s le_0)) (ih361 (500 - (v199 + 1)).toNat (by omega) M217 (v199 + 1) rfl hP218 hF219 (mUp_at e220) (mUp_no e220 e203 (Or.inr (by decide))) (mUp_no e220 e204 (Or.inr (by decide))) (by first | with_reducible assumption | omega) (by first | with_reducible assumption | omega) (TXP_sm (Sm.up e220 g_9_3 rfl) pr205) (by first | with_reducible assumption | omega) (by first | with_reducible assumption | omega) (by first | with_reducible assumption | omega) ((sk_b (by omega) (by have q9 := pr205 v199 (by omega) (by rw [e203]; omega); rw [e213] at q9; omega)).trans ti209))
      · intro h221
        refine wk_al0 r241_33 (wk_getfr r241_34 fd_9_0 (br_9_0 hP197) (wk_al0 r241_37 (wk_getfi r241_38 fd_9_3 e202 (wk_bald r241_41 ar_1 ⟨by omega, by omega⟩ e213 (wk_c2 r241_42 ?_)))))
        refine wk_icne r241_44 ⟨by omega, by omega⟩ (by decide) ?_ ?_
        · intro h222
          exact wp_fg (le_s (le_s le_0)) (c60_360 (((sk_n (by omega) (fun q8 => by have q9 := pr205 v199 (by omega) (by rw [e203]; omega); rw [e213] at q9; omega)).symm.trans ti209)))
        · intro h223
          refine wk_al0 r241_47 (wk_dupr r241_48 (wk_getfi r241_49 fd_9_3 e202 (wk_c1 r241_52 (wk_iadd r241_53 (wk_putfi81 r241_54 fd_9_3 (wk_nw g_9_3 rfl hP197 hF198 (uf_9_3 ⟨by omega, by omega⟩) ?_))))))
          intro M224 hP225 hF226 e227
          refine wk_goto r241_57 ?_
          exact wp_fg (le_s (le_s le_0)) (ih361 (500 - (v199 + 1)).toNat (by omega) M224 (v199 + 1) rfl hP225 hF226 (mUp_at e227) (mUp_no e227 e203 (Or.inr (by decide))) (mUp_no e227 e204 (Or.inr (by decide))) (by first | with_reducible assumption | omega) (by first | with_reducible assumption | omega) (TXP_sm (Sm.up e227 g_9_3 rfl) pr205) (by first | with_reducible assumption | omega) (by first | with_reducible assumption | omega) (by first | with_reducible assumption | omega) ((sk_b (by omega) (by have q9 := pr205 v199 (by omega) (by rw [e203]; omega); rw [e213] at q9; omega)).trans ti209))
  exact wp_fg (le_s (le_s le_0)) (c8_361 _ M1 x9_2 rfl hP2 hF3 (mUp_at e4) (mUp_no e4 ex9_1 (Or.inr (by decide))) (mUp_no e4 ex9_2 (Or.inr (by decide))) (by first | with_reducible assumption | omega) (by first | with_reducible assumption | omega) (TXP_sm (Sm.up e4 g_9_3 rfl) pp_TX) (by first | with_reducible assumption | omega) (by first | with_reducible assumption | omega) (by first | with_reducible assumption | omega) (rfl))
def fm_m7235_9 : Nat := 4222124650659840
/-- IslandHall$Tokens.begin -/
theorem m7235_9 {B : eB} (d : Nat) (M0 : Mm) (p1 : Int) (T : Int → Int) (hP0 : Pw M0) (l1 : 0 ≤ p1) (u1 : p1 ≤ 500) (xp0 : ∀ k : Int, 0 ≤ k → k < p1 → (0 ≤ M0 1 k → T k = M0 1 k) ∧ (M0 1 k < 0 → -128 ≤ M0 1 k ∧ T k = M0 1 k + 256)) : Ct B (d + 3) 235 [R 9, I p1] M0 (qV fun M => Pw M ∧ Fr fm_m7235_9 M0 M ∧ 0 ≤ p1 + (-1) * (M 9 1) ∧ 0 ≤ M 9 1 + (-1) * p1 ∧ 0 ≤ M 9 3 ∧ 0 ≤ p1 + (-1) * (M 9 3) ∧ 0 ≤ p1 + (-1) * (M 9 2) ∧ 0 ≤ M 9 2 + (-1) * (M 9 3) ∧ (M 9 1 = p1) ∧ (M 9 3 = sk T p1 0) ∧ (TXP T M) ∧ (TCP T M)) := by
  refine ct_of (d := d + 2) (k := 0) (L := [some (R 9), some (I p1)]) rfl rfl rfl ?_
  have hF0 := Fr.rf fm_m7235_9 M0
  generalize hQ : (qV fun M => Pw M ∧ Fr fm_m7235_9 M0 M ∧ 0 ≤ p1 + (-1) * (M 9 1) ∧ 0 ≤ M 9 1 + (-1) * p1 ∧ 0 ≤ M 9 3 ∧ 0 ≤ p1 + (-1) * (M 9 3) ∧ 0 ≤ p1 + (-1) * (M 9 2) ∧ 0 ≤ M 9 2 + (-1) * (M 9 3) ∧ (M 9 1 = p1) ∧ (M 9 3 = sk T p1 0) ∧ (TXP T M) ∧ (TCP T M)) = Q
  refine wk_al0 r235_0 (wk_il1 r235_1 (wk_al0 r235_2 (wk_getfr r235_3 fd_9_0 (br_9_0 hP0) (wk_alen r235_6 ar_1 (by decide) (wk_min r235_7 ⟨by omega, by omega⟩ (by decide) rfl ?_)))))
  intro v1 h2 h3 h4
  have h5 : v1 = p1 := by omega
  refine wk_putfi81 r235_10 fd_9_1 (wk_nw g_9_1 rfl hP0 hF0 (uf_9_1 ⟨by omega, by omega⟩) ?_)
  intro M6 hP7 hF8 e9
  have pr10 : TXP T M6 := fun k a b => by rw [(mUp_at e9)] at b; rw [e9, mUp_ne (Or.inl (by decide))]; exact xp0 k a (by omega)
  refine wk_al0 r235_13 (wk_c1 r235_14 (wk_putfi81 r235_15 fd_9_2 (wk_nw g_9_2 rfl hP7 hF8 (uf_9_2 (by decide)) ?_)))
  intro M11 hP12 hF13 e14
  refine wk_al0 r235_18 (wk_cv1 r235_19 kc_9_241 rfl (m7241_9 _ M11 v1 0 T hP12 (mUp_no e14 (mUp_at e9) (Or.inr (by decide))) (by first | with_reducible assumption | omega) (by first | with_reducible assumption | omega) (mUp_at e14) (by first | with_reducible assumption | omega) (by first | with_reducible assumption | omega) (by omega) (TXP_sm (Sm.up e14 g_9_2 rfl) pr10)) (cqV ?_))
  rintro M15 ⟨hP16, hQ17, h19, h20, h21, h22, xh23, pr24, pr25⟩
  have hF18 : Fr fm_m7235_9 M0 M15 := hF13.tr hQ17 rfl
  obtain ⟨v26, e27⟩ : ∃ v, M15 9 3 = v := ⟨_, rfl⟩
  have h28 := (bf_9_3 hP16).1; rw [e27] at h28
  have h29 := (bf_9_3 hP16).2; rw [e27] at h29
  obtain ⟨v30, e31⟩ : ∃ v, M15 9 2 = v := ⟨_, rfl⟩
  have h32 := (bf_9_2 hP16).1; rw [e31] at h32
  have h33 := (bf_9_2 hP16).2; rw [e31] at h33
  subst hQ; exact wk_ret r235_22 (⟨rfl, hP16, hF18, by have := ((hQ17.at g_9_1 rfl).trans (mUp_no e14 (mUp_at e9) (Or.inr (by decide)))); omega, by have := ((hQ17.at g_9_1 rfl).trans (mUp_no e14 (mUp_at e9) (Or.inr (by decide)))); omega, by have := e27; omega, by have := e27; omega, by have := e31; omega, by have := e31; have := e27; omega, by have := ((hQ17.at g_9_1 rfl).trans (mUp_no e14 (mUp_at e9) (Or.inr (by decide)))); omega, by have q9 := xh23; rw [show v1 = p1 by omega] at q9; exact q9, pr24, pr25⟩)
def fm_m7154_6 : Nat := 4222571327258624
/-- IslandHall$Parser.begin -/
theorem m7154_6 {B : eB} (d : Nat) (M0 : Mm) (p1 : Int) (c2 : Int) (T : Int → Int) (hP0 : Pw M0) (l1 : 0 ≤ p1) (u1 : p1 ≤ 500) (hC2 : isC c2) (xp0 : ∀ k : Int, 0 ≤ k → k < p1 → (0 ≤ M0 1 k → T k = M0 1 k) ∧ (M0 1 k < 0 → -128 ≤ M0 1 k ∧ T k = M0 1 k + 256)) : Ct B (d + 4) 154 [R 6, I p1, R c2] M0 (qV fun M => Pw M ∧ Fr fm_m7154_6 M0 M ∧ 0 ≤ p1 + (-1) * (M 9 1) ∧ 0 ≤ M 9 1 + (-1) * p1 ∧ 0 ≤ M 9 3 ∧ 0 ≤ p1 + (-1) * (M 9 3) ∧ 0 ≤ p1 + (-1) * (M 9 2) ∧ 0 ≤ M 9 2 + (-1) * (M 9 3) ∧ 0 ≤ M 6 4 ∧ 0 ≤ (-1) * (M 6 4) ∧ 0 ≤ M 6 5 + 1 ∧ 0 ≤ (-1) * (M 6 5) + (-1) ∧ (M 9 3 = sk T p1 0) ∧ (TXP T M) ∧ (TCP T M)) := by
  refine ct_of (d := d + 3) (k := 0) (L := [some (R 6), some (I p1), some (R c2)]) rfl rfl rfl ?_
  have hF0 := Fr.rf fm_m7154_6 M0
  generalize hQ : (qV fun M => Pw M ∧ Fr fm_m7154_6 M0 M ∧ 0 ≤ p1 + (-1) * (M 9 1) ∧ 0 ≤ M 9 1 + (-1) * p1 ∧ 0 ≤ M 9 3 ∧ 0 ≤ p1 + (-1) * (M 9 3) ∧ 0 ≤ p1 + (-1) * (M 9 2) ∧ 0 ≤ M 9 2 + (-1) * (M 9 3) ∧ 0 ≤ M 6 4 ∧ 0 ≤ (-1) * (M 6 4) ∧ 0 ≤ M 6 5 + 1 ∧ 0 ≤ (-1) * (M 6 5) + (-1) ∧ (M 9 3 = sk T p1 0) ∧ (TXP T M) ∧ (TCP T M)) = Q
  refine wk_al0 r154_0 (wk_al2 r154_1 (wk_putfr81 r154_2 fd_6_2 (wk_nw g_6_2 rfl hP0 hF0 (pcU hC2) ?_)))
  intro M1 hP2 hF3 e4
  refine wk_al0 r154_5 (wk_c1 r154_6 (wk_putfi81 r154_7 fd_6_4 (wk_nw g_6_4 rfl hP2 hF3 (uf_6_4 (by decide)) ?_)))
  intro M5 hP6 hF7 e8
  refine wk_al0 r154_10 (wk_c1 r154_11 (wk_putfi81 r154_12 fd_6_5 (wk_nw g_6_5 rfl hP6 hF7 (uf_6_5 (by decide)) ?_)))
  intro M9 hP10 hF11 e12
  refine wk_al0 r154_15 (wk_getfr r154_16 fd_6_0 (br_6_0 hP10) (wk_il1 r154_19 (wk_cv2 r154_20 kc_9_235 rfl (m7235_9 _ M9 p1 T hP10 (by first | with_reducible assumption | omega) (by first | with_reducible assumption | omega) (fun k a b => by rw [hF11.at (ga_1 k) rfl]; exact xp0 k a b)) (cqV ?_))))
  rintro M13 ⟨hP14, hQ15, h17, h18, h19, h20, h21, h22, xh23, xh24, pr25, pr26⟩
  have hF16 : Fr fm_m7154_6 M0 M13 := hF11.tr hQ15 rfl
  obtain ⟨v27, e28⟩ : ∃ v, M13 9 1 = v := ⟨_, rfl⟩
  have h29 := (bf_9_1 hP14).1; rw [e28] at h29
  have h30 := (bf_9_1 hP14).2; rw [e28] at h30
  obtain ⟨v31, e32⟩ : ∃ v, M13 9 3 = v := ⟨_, rfl⟩
  have h33 := (bf_9_3 hP14).1; rw [e32] at h33
  have h34 := (bf_9_3 hP14).2; rw [e32] at h34
  obtain ⟨v35, e36⟩ : ∃ v, M13 9 2 = v := ⟨_, rfl⟩
  have h37 := (bf_9_2 hP14).1; rw [e36] at h37
  have h38 := (bf_9_2 hP14).2; rw [e36] at h38
  subst hQ; exact wk_ret r154_23 (⟨rfl, hP14, hF16, by have := e28; omega, by have := e28; omega, by have := e32; omega, by have := e32; omega, by have := e36; omega, by have := e36; have := e32; omega, by have := ((hQ15.at g_6_4 rfl).trans (mUp_no e12 (mUp_at e8) (Or.inr (by decide)))); omega, by have := ((hQ15.at g_6_4 rfl).trans (mUp_no e12 (mUp_at e8) (Or.inr (by decide)))); omega, by have := ((hQ15.at g_6_5 rfl).trans (mUp_at e12)); omega, by have := ((hQ15.at g_6_5 rfl).trans (mUp_at e12)); omega, xh24, pr25, pr26⟩)
def fm_m7141 : Nat := 3758096384
/-- IslandHall$Code.clear -/
theorem m7141 {B : eB} (d : Nat) (M0 : Mm) (c0 : Int) (hP0 : Pw M0) (hC0 : isC c0) : Ct B (d + 1) 141 [R c0] M0 (qV fun M => Pw M ∧ Fr fm_m7141 M0 M) := by
  refine ct_of (d := d + 0) (k := 0) (L := [some (R c0)]) rfl rfl rfl ?_
  have hF0 := Fr.rf fm_m7141 M0
  generalize hQ : (qV fun M => Pw M ∧ Fr fm_m7141 M0 M) = Q
  refine wk_al0 r141_0 (wk_c1 r141_1 (wk_putfi81 r141_2 (fdC_1 hC0) (wk_nw (g_c1 hC0) rfl hP0 hF0 (uC_1 hC0 (by decide)) ?_)))
  intro M1 hP2 hF3 e4
  refine wk_al0 r141_5 (wk_c1 r141_6 (wk_putfi81 r141_7 (fdC_2 hC0) (wk_nw (g_c2 hC0) rfl hP2 hF3 (uC_2 hC0 (by decide)) ?_)))
  intro M5 hP6 hF7 e8
  refine wk_al0 r141_10 (wk_c1 r141_11 (wk_putfi81 r141_12 (fdC_3 hC0) (wk_nw (g_c3 hC0) rfl hP6 hF7 (uC_3 hC0 (by decide)) ?_)))
  intro M9 hP10 hF11 e12
  subst hQ; exact wk_ret r141_15 (⟨rfl, hP10, hF11⟩)
def fm_m7238_9 : Nat := 0
/-- IslandHall$Tokens.isSign -/
theorem m7238_9 {B : eB} (d : Nat) (M0 : Mm) (p1 : Int) (x9_1 : Int) (x9_3 : Int) (T : Int → Int) (hP0 : Pw M0) (l1 : 40 ≤ p1) (u1 : p1 ≤ 62) (ex9_1 : M0 9 1 = x9_1) (lx9_1 : 0 ≤ x9_1) (ux9_1 : x9_1 ≤ 500) (ex9_3 : M0 9 3 = x9_3) (lx9_3 : 0 ≤ x9_3) (ux9_3 : x9_3 ≤ 500) (pp_TX : TXP T M0) (pp_TC : TCP T M0) : Ct B (d + 1) 238 [R 9, I p1] M0 (qI fun z M => Pw M ∧ Fr fm_m7238_9 M0 M ∧ 0 ≤ z ∧ z ≤ 1 ∧ (z = sgI T x9_1 x9_3 p1)) := by
  refine ct_of (d := d + 0) (k := 0) (L := [some (R 9), some (I p1)]) rfl rfl rfl ?_
  have hF0 := Fr.rf fm_m7238_9 M0
  generalize hQ : (qI fun z M => Pw M ∧ Fr fm_m7238_9 M0 M ∧ 0 ≤ z ∧ z ≤ 1 ∧ (z = sgI T x9_1 x9_3 p1)) = Q
  have hTC := pp_TC
  unfold TCP at hTC
  rw [ex9_1, ex9_3] at hTC
  have hlt := tt_lt T x9_1 x9_3
  refine wk_al0 r238_0 (wk_getfb r238_1 fd_9_4 (bf_9_4 hP0) ?_)
  intro v1 h3 h4 e2
  refine wk_c1 r238_4 ?_
  refine wk_icne r238_5 ⟨by omega, by omega⟩ (by decide) ?_ ?_
  · intro h5
    refine wk_c1 r238_36 ?_
    subst hQ; exact wk_zret r238_37 (by decide) (⟨rfl, _, rfl, hP0, hF0, by omega, by omega, by have := sgI_c T x9_1 x9_3 p1; omega⟩)
  · intro h6
    refine wk_al0 r238_8 (wk_getfi r238_9 fd_9_3 ex9_3 (wk_al0 r238_12 (wk_getfi r238_13 fd_9_1 ex9_1 ?_)))
    refine wk_icge r238_16 ⟨by omega, by omega⟩ ⟨by omega, by omega⟩ ?_ ?_
    · intro h7
      refine wk_c1 r238_36 ?_
      subst hQ; exact wk_zret r238_37 (by decide) (⟨rfl, _, rfl, hP0, hF0, by omega, by omega, by have := sgI_c T x9_1 x9_3 p1; omega⟩)
    · intro h8
      refine wk_al0 r238_19 (wk_getfr r238_20 fd_9_0 (br_9_0 hP0) (wk_al0 r238_23 (wk_getfi r238_24 fd_9_3 ex9_3 (wk_baldb r238_27 ar_1 ⟨by omega, by omega⟩ (fun q0 q1 => ba_1 hP0 q0 q1) ?_))))
      intro v9 h11 h12 e10
      refine wk_il1 r238_28 ?_
      refine wk_icne r238_29 ⟨by omega, by omega⟩ ⟨by omega, by omega⟩ ?_ ?_
      · intro h13
        refine wk_c1 r238_36 ?_
        subst hQ; exact wk_zret r238_37 (by decide) (⟨rfl, _, rfl, hP0, hF0, by omega, by omega, by have := sgI_c T x9_1 x9_3 p1; have q9 := pp_TX x9_3 (by omega) (by rw [ex9_1]; omega); rw [e10] at q9; omega⟩)
      · intro h14
        refine wk_c1 r238_32 (wk_goto r238_33 ?_)
        subst hQ; exact wk_zret r238_37 (by decide) (⟨rfl, _, rfl, hP0, hF0, by omega, by omega, by have := sgI_c T x9_1 x9_3 p1; have q9 := pp_TX x9_3 (by omega) (by rw [ex9_1]; omega); rw [e10] at q9; omega⟩)
def fm_m7237_9 : Nat := 0
/-- IslandHall$Tokens.isName -/
theorem m7237_9 {B : eB} (d : Nat) (M0 : Mm) (x9_1 : Int) (x9_3 : Int) (T : Int → Int) (hP0 : Pw M0) (ex9_1 : M0 9 1 = x9_1) (lx9_1 : 0 ≤ x9_1) (ux9_1 : x9_1 ≤ 500) (ex9_3 : M0 9 3 = x9_3) (lx9_3 : 0 ≤ x9_3) (ux9_3 : x9_3 ≤ 500) (pp_TX : TXP T M0) (pp_TC : TCP T M0) : Ct B (d + 1) 237 [R 9] M0 (qI fun z M => Pw M ∧ Fr fm_m7237_9 M0 M ∧ 0 ≤ z ∧ z ≤ 1 ∧ (z = nmI T x9_1 x9_3)) := by
  refine ct_of (d := d + 0) (k := 0) (L := [some (R 9)]) rfl rfl rfl ?_
  have hF0 := Fr.rf fm_m7237_9 M0
  generalize hQ : (qI fun z M => Pw M ∧ Fr fm_m7237_9 M0 M ∧ 0 ≤ z ∧ z ≤ 1 ∧ (z = nmI T x9_1 x9_3)) = Q
  have hTC := pp_TC
  unfold TCP at hTC
  rw [ex9_1, ex9_3] at hTC
  have hlt := tt_lt T x9_1 x9_3
  refine wk_al0 r237_0 (wk_getfb r237_1 fd_9_4 (bf_9_4 hP0) ?_)
  intro v1 h3 h4 e2
  refine wk_c1 r237_4 ?_
  refine wk_icne r237_5 ⟨by omega, by omega⟩ (by decide) ?_ ?_
  · intro h5
    refine wk_c1 r237_25 ?_
    subst hQ; exact wk_zret r237_26 (by decide) (⟨rfl, _, rfl, hP0, hF0, by omega, by omega, by have := nmI_c T x9_1 x9_3; omega⟩)
  · intro h6
    refine wk_al0 r237_8 (wk_getfb r237_9 fd_9_2 (bf_9_2 hP0) ?_)
    intro v7 h9 h10 e8
    refine wk_al0 r237_12 (wk_getfi r237_13 fd_9_3 ex9_3 (wk_isub r237_16 (wk_c1 r237_17 ?_)))
    refine wk_icne r237_18 ⟨by omega, by omega⟩ (by decide) ?_ ?_
    · intro h11
      refine wk_c1 r237_25 ?_
      subst hQ; exact wk_zret r237_26 (by decide) (⟨rfl, _, rfl, hP0, hF0, by omega, by omega, by have := nmI_c T x9_1 x9_3; omega⟩)
    · intro h12
      refine wk_c1 r237_21 (wk_goto r237_22 ?_)
      subst hQ; exact wk_zret r237_26 (by decide) (⟨rfl, _, rfl, hP0, hF0, by omega, by omega, by have := nmI_c T x9_1 x9_3; omega⟩)
def fm_m7239_9 : Nat := 0
/-- IslandHall$Tokens.isWord -/
theorem m7239_9 {B : eB} (d : Nat) (M0 : Mm) (t1 : Int) (x9_1 : Int) (x9_3 : Int) (T : Int → Int) (hP0 : Pw M0) (ht_t1 : 4097 ≤ t1 ∧ t1 ≤ 4132) (ex9_1 : M0 9 1 = x9_1) (lx9_1 : 0 ≤ x9_1) (ux9_1 : x9_1 ≤ 500) (ex9_3 : M0 9 3 = x9_3) (lx9_3 : 0 ≤ x9_3) (ux9_3 : x9_3 ≤ 500) (xp0 : 4111 ≤ t1) (pp_TX : TXP T M0) (pp_TC : TCP T M0) : Ct B (d + 2) 239 [R 9, R t1] M0 (qI fun z M => Pw M ∧ Fr fm_m7239_9 M0 M ∧ 0 ≤ z ∧ z ≤ 1 ∧ (z = 1 ↔ kw T x9_1 x9_3 = wix t1)) := by
  refine ct_of (d := d + 1) (k := 1) (L := [some (R 9), some (R t1), none]) rfl rfl rfl ?_
  have hF0 := Fr.rf fm_m7239_9 M0
  generalize hQ : (qI fun z M => Pw M ∧ Fr fm_m7239_9 M0 M ∧ 0 ≤ z ∧ z ≤ 1 ∧ (z = 1 ↔ kw T x9_1 x9_3 = wix t1)) = Q
  have hTC := pp_TC
  unfold TCP at hTC
  rw [ex9_1, ex9_3] at hTC
  have hlt := tt_lt T x9_1 x9_3
  refine wk_al0 r239_0 (wk_getfb r239_1 fd_9_4 (bf_9_4 hP0) ?_)
  intro v1 h3 h4 e2
  refine wk_c1 r239_4 ?_
  refine wk_icne r239_5 ⟨by omega, by omega⟩ (by decide) ?_ ?_
  · intro h5
    refine wk_c1 r239_24 ?_
    subst hQ; exact wk_zret r239_25 (by decide) (⟨rfl, _, rfl, hP0, hF0, by omega, by omega, by first | exact kw_of pp_TC pp_TX ex9_1 ex9_3 xp0 ht_t1.2 ⟨fun h => by omega, fun h => by have h1 := h.1; have h2 := h.2.1; omega⟩ | exact kw_of pp_TC pp_TX ex9_1 ex9_3 xp0 ht_t1.2 ⟨fun h => by omega, fun h => by have h1 := h.2.2 _ (by omega) (by omega); rw [ex9_3] at h1; omega⟩ | exact kw_of pp_TC pp_TX ex9_1 ex9_3 xp0 ht_t1.2 ⟨fun _ => ⟨by omega, by omega, fun i h0 h1 => by rw [ex9_3]; exact _ i h0 (by omega)⟩, fun _ => rfl⟩⟩)
  · intro h6
    refine wk_al0 r239_8 (wk_getfb r239_9 fd_9_2 (bf_9_2 hP0) ?_)
    intro v7 h9 h10 e8
    refine wk_al0 r239_12 (wk_getfi r239_13 fd_9_3 ex9_3 (wk_isub r239_16 (wk_al1 r239_17 (wk_ct1 r239_18 ht_t1 rfl (ct_len _ _ ht_t1) (cqI ?_)))))
    rintro v11 _ ⟨rfl, h12, h13, h14⟩
    refine wk_iceq r239_21 ⟨by omega, by omega⟩ ⟨by omega, by omega⟩ ?_ ?_
    · intro h15
      refine wk_c1 r239_26 (wk_is2 r239_27 rfl ?_)
      have c28_216 : ∀ (k216 : Nat) (v196 : Int), (40 - v196).toNat = k216 → 0 ≤ v196 → v196 ≤ 40 → (∀ k : Int, 0 ≤ k → k < v196 → M0 1 (x9_3 + k) = chf t1 k) → Wp B (d + 1) 239 28 [some (R 9), some (R t1), some (I v196)] [] M0 Q := by
        refine lp_ind ?_
        intro k216 ih216 v196 hk216 h197 h198 ti199
        refine wk_il2 r239_28 (wk_al1 r239_29 (wk_ct1 r239_30 ht_t1 rfl (ct_len _ _ ht_t1) (cqI ?_)))
        rintro v200 _ ⟨rfl, h201, h202, h203⟩
        refine wk_icge r239_33 ⟨by omega, by omega⟩ ⟨by omega, by omega⟩ ?_ ?_
        · intro h204
          refine wk_c1 r239_63 ?_
          subst hQ; exact wk_zret r239_64 (by decide) (⟨rfl, _, rfl, hP0, hF0, by omega, by omega, by first | exact kw_of pp_TC pp_TX ex9_1 ex9_3 xp0 ht_t1.2 ⟨fun h => by omega, fun h => by have h1 := h.1; have h2 := h.2.1; omega⟩ | exact kw_of pp_TC pp_TX ex9_1 ex9_3 xp0 ht_t1.2 ⟨fun h => by omega, fun h => by have h1 := h.2.2 v196 (by omega) (by omega); rw [ex9_3] at h1; omega⟩ | exact kw_of pp_TC pp_TX ex9_1 ex9_3 xp0 ht_t1.2 ⟨fun _ => ⟨by omega, by omega, fun i h0 h1 => by rw [ex9_3]; exact ti199 i h0 (by omega)⟩, fun _ => rfl⟩⟩)
        · intro h205
          refine wk_al0 r239_36 (wk_getfr r239_37 fd_9_0 (br_9_0 hP0) (wk_al0 r239_40 (wk_getfi r239_41 fd_9_3 ex9_3 (wk_il2 r239_44 (wk_iadd r239_45 (wk_baldb r239_46 ar_1 ⟨by omega, by omega⟩ (fun q0 q1 => ba_1 hP0 q0 q1) ?_))))))
          intro v206 h208 h209 e207
          refine wk_al1 r239_47 (wk_il2 r239_48 (wk_ct2 r239_49 ht_t1 rfl (ct_cha _ _ ht_t1 ⟨by omega, by omega⟩) (cqI ?_)))
          rintro v210 _ ⟨rfl, h211, h212, h213⟩
          refine wk_iceq r239_52 ⟨by omega, by omega⟩ ⟨by omega, by omega⟩ ?_ ?_
          · intro h214
            refine wk_inc2 r239_57 rfl (wk_goto r239_60 ?_)
            exact wp_fg (le_s (le_s (le_s le_0))) (ih216 (40 - (v196 + 1)).toNat (by omega) (v196 + 1) rfl (by first | with_reducible assumption | omega) (by first | with_reducible assumption | omega) (fun k q0 q1 => (Int.lt_or_le k v196).elim (fun q => ti199 k q0 q) (fun q => by rw [show k = v196 by omega]; omega)))
          · intro h215
            refine wk_c1 r239_55 ?_
            subst hQ; exact wk_zret r239_56 (by decide) (⟨rfl, _, rfl, hP0, hF0, by omega, by omega, by first | exact kw_of pp_TC pp_TX ex9_1 ex9_3 xp0 ht_t1.2 ⟨fun h => by omega, fun h => by have h1 := h.1; have h2 := h.2.1; omega⟩ | exact kw_of pp_TC pp_TX ex9_1 ex9_3 xp0 ht_t1.2 ⟨fun h => by omega, fun h => by have h1 := h.2.2 v196 (by omega) (by omega); rw [ex9_3] at h1; omega⟩ | exact kw_of pp_TC pp_TX ex9_1 ex9_3 xp0 ht_t1.2 ⟨fun _ => ⟨by omega, by omega, fun i h0 h1 => by rw [ex9_3]; exact ti199 i h0 (by omega)⟩, fun _ => rfl⟩⟩)
      exact wp_fg (le_s (le_s (le_s le_0))) (c28_216 _ 0 rfl (by first | with_reducible assumption | omega) (by first | with_reducible assumption | omega) (fun k a b => by omega))
    · intro h217
      refine wk_c1 r239_24 ?_
      subst hQ; exact wk_zret r239_25 (by decide) (⟨rfl, _, rfl, hP0, hF0, by omega, by omega, by first | exact kw_of pp_TC pp_TX ex9_1 ex9_3 xp0 ht_t1.2 ⟨fun h => by omega, fun h => by have h1 := h.1; have h2 := h.2.1; omega⟩ | exact kw_of pp_TC pp_TX ex9_1 ex9_3 xp0 ht_t1.2 ⟨fun h => by omega, fun h => by have h1 := h.2.2 _ (by omega) (by omega); rw [ex9_3] at h1; omega⟩ | exact kw_of pp_TC pp_TX ex9_1 ex9_3 xp0 ht_t1.2 ⟨fun _ => ⟨by omega, by omega, fun i h0 h1 => by rw [ex9_3]; exact _ i h0 (by omega)⟩, fun _ => rfl⟩⟩)
def fm_m7155_6 : Nat := 0
/-- IslandHall$Parser.canBegin -/
theorem m7155_6 {B : eB} (d : Nat) (M0 : Mm) (x9_1 : Int) (x9_3 : Int) (T : Int → Int) (hP0 : Pw M0) (ex9_1 : M0 9 1 = x9_1) (lx9_1 : 0 ≤ x9_1) (ux9_1 : x9_1 ≤ 500) (ex9_3 : M0 9 3 = x9_3) (lx9_3 : 0 ≤ x9_3) (ux9_3 : x9_3 ≤ 500) (pp_TX : TXP T M0) (pp_TC : TCP T M0) : Ct B (d + 3) 155 [R 6] M0 (qI fun z M => Pw M ∧ Fr fm_m7155_6 M0 M ∧ 0 ≤ z ∧ z ≤ 1 ∧ (z = cbI T x9_1 x9_3)) := by
  refine ct_of (d := d + 2) (k := 0) (L := [some (R 6)]) rfl rfl rfl ?_
  have hF0 := Fr.rf fm_m7155_6 M0
  generalize hQ : (qI fun z M => Pw M ∧ Fr fm_m7155_6 M0 M ∧ 0 ≤ z ∧ z ≤ 1 ∧ (z = cbI T x9_1 x9_3)) = Q
  refine wk_al0 r155_0 (wk_getfr r155_1 fd_6_0 (br_6_0 hP0) (wk_c2 r155_4 (wk_cv2 r155_6 kc_9_238 rfl (m7238_9 _ M0 40 x9_1 x9_3 T hP0 (by decide) (by decide) ex9_1 (by first | with_reducible assumption | omega) (by first | with_reducible assumption | omega) ex9_3 (by first | with_reducible assumption | omega) (by first | with_reducible assumption | omega) pp_TX pp_TC) (cqI ?_))))
  rintro v6 M1 ⟨hP2, hQ3, h7, h8, xh5⟩
  obtain rfl := Fr.same hQ3
  refine wk_ifne r155_9 ⟨by omega, by omega⟩ ?_ ?_
  · intro h9
    refine wk_c1 r155_94 (wk_goto r155_95 ?_)
    subst hQ; exact wk_zret r155_99 (by decide) (⟨rfl, _, rfl, hP0, hF0, by omega, by omega, by have := cbI_c T x9_1 x9_3; omega⟩)
  · intro h10
    refine wk_al0 r155_12 (wk_getfr r155_13 fd_6_0 (br_6_0 hP0) (wk_cv1 r155_16 kc_9_237 rfl (m7237_9 _ M0 x9_1 x9_3 T hP0 ex9_1 (by first | with_reducible assumption | omega) (by first | with_reducible assumption | omega) ex9_3 (by first | with_reducible assumption | omega) (by first | with_reducible assumption | omega) pp_TX pp_TC) (cqI ?_)))
    rintro v16 M11 ⟨hP12, hQ13, h17, h18, xh15⟩
    obtain rfl := Fr.same hQ13
    refine wk_ifne r155_19 ⟨by omega, by omega⟩ ?_ ?_
    · intro h19
      refine wk_c1 r155_94 (wk_goto r155_95 ?_)
      subst hQ; exact wk_zret r155_99 (by decide) (⟨rfl, _, rfl, hP0, hF0, by omega, by omega, by have := cbI_c T x9_1 x9_3; omega⟩)
    · intro h20
      refine wk_al0 r155_22 (wk_getfr r155_23 fd_6_0 (br_6_0 hP0) (wk_c8 r155_26 (wk_cv2 r155_28 kc_9_239 rfl (m7239_9 _ M0 4119 x9_1 x9_3 T hP0 (by decide) ex9_1 (by first | with_reducible assumption | omega) (by first | with_reducible assumption | omega) ex9_3 (by first | with_reducible assumption | omega) (by first | with_reducible assumption | omega) (by first | assumption | omega | (unfold stepok; omega)) pp_TX pp_TC) (cqI ?_))))
      rintro v26 M21 ⟨hP22, hQ23, h27, h28, xh25⟩
      obtain rfl := Fr.same hQ23
      rw [show wix 4119 = 14 from rfl] at xh25
      refine wk_ifne r155_31 ⟨by omega, by omega⟩ ?_ ?_
      · intro h29
        refine wk_c1 r155_94 (wk_goto r155_95 ?_)
        subst hQ; exact wk_zret r155_99 (by decide) (⟨rfl, _, rfl, hP0, hF0, by omega, by omega, by have := cbI_c T x9_1 x9_3; omega⟩)
      · intro h30
        refine wk_al0 r155_34 (wk_getfr r155_35 fd_6_0 (br_6_0 hP0) (wk_c8 r155_38 (wk_cv2 r155_40 kc_9_239 rfl (m7239_9 _ M0 4114 x9_1 x9_3 T hP0 (by decide) ex9_1 (by first | with_reducible assumption | omega) (by first | with_reducible assumption | omega) ex9_3 (by first | with_reducible assumption | omega) (by first | with_reducible assumption | omega) (by first | assumption | omega | (unfold stepok; omega)) pp_TX pp_TC) (cqI ?_))))
        rintro v36 M31 ⟨hP32, hQ33, h37, h38, xh35⟩
        obtain rfl := Fr.same hQ33
        rw [show wix 4114 = 18 from rfl] at xh35
        refine wk_ifne r155_43 ⟨by omega, by omega⟩ ?_ ?_
        · intro h39
          refine wk_c1 r155_94 (wk_goto r155_95 ?_)
          subst hQ; exact wk_zret r155_99 (by decide) (⟨rfl, _, rfl, hP0, hF0, by omega, by omega, by have := cbI_c T x9_1 x9_3; omega⟩)
        · intro h40
          refine wk_al0 r155_46 (wk_getfr r155_47 fd_6_0 (br_6_0 hP0) (wk_c8 r155_50 (wk_cv2 r155_52 kc_9_239 rfl (m7239_9 _ M0 4115 x9_1 x9_3 T hP0 (by decide) ex9_1 (by first | with_reducible assumption | omega) (by first | with_reducible assumption | omega) ex9_3 (by first | with_reducible assumption | omega) (by first | with_reducible assumption | omega) (by first | assumption | omega | (unfold stepok; omega)) pp_TX pp_TC) (cqI ?_))))
          rintro v46 M41 ⟨hP42, hQ43, h47, h48, xh45⟩
          obtain rfl := Fr.same hQ43
          rw [show wix 4115 = 8 from rfl] at xh45
          refine wk_ifne r155_55 ⟨by omega, by omega⟩ ?_ ?_
          · intro h49
            refine wk_c1 r155_94 (wk_goto r155_95 ?_)
            subst hQ; exact wk_zret r155_99 (by decide) (⟨rfl, _, rfl, hP0, hF0, by omega, by omega, by have := cbI_c T x9_1 x9_3; omega⟩)
          · intro h50
            refine wk_al0 r155_58 (wk_getfr r155_59 fd_6_0 (br_6_0 hP0) (wk_c8 r155_62 (wk_cv2 r155_64 kc_9_239 rfl (m7239_9 _ M0 4118 x9_1 x9_3 T hP0 (by decide) ex9_1 (by first | with_reducible assumption | omega) (by first | with_reducible assumption | omega) ex9_3 (by first | with_reducible assumption | omega) (by first | with_reducible assumption | omega) (by first | assumption | omega | (unfold stepok; omega)) pp_TX pp_TC) (cqI ?_))))
            rintro v56 M51 ⟨hP52, hQ53, h57, h58, xh55⟩
            obtain rfl := Fr.same hQ53
            rw [show wix 4118 = 19 from rfl] at xh55
            refine wk_ifne r155_67 ⟨by omega, by omega⟩ ?_ ?_
            · intro h59
              refine wk_c1 r155_94 (wk_goto r155_95 ?_)
              subst hQ; exact wk_zret r155_99 (by decide) (⟨rfl, _, rfl, hP0, hF0, by omega, by omega, by have := cbI_c T x9_1 x9_3; omega⟩)
            · intro h60
              refine wk_al0 r155_70 (wk_getfr r155_71 fd_6_0 (br_6_0 hP0) (wk_c8 r155_74 (wk_cv2 r155_76 kc_9_239 rfl (m7239_9 _ M0 4116 x9_1 x9_3 T hP0 (by decide) ex9_1 (by first | with_reducible assumption | omega) (by first | with_reducible assumption | omega) ex9_3 (by first | with_reducible assumption | omega) (by first | with_reducible assumption | omega) (by first | assumption | omega | (unfold stepok; omega)) pp_TX pp_TC) (cqI ?_))))
              rintro v66 M61 ⟨hP62, hQ63, h67, h68, xh65⟩
              obtain rfl := Fr.same hQ63
              rw [show wix 4116 = 20 from rfl] at xh65
              refine wk_ifne r155_79 ⟨by omega, by omega⟩ ?_ ?_
              · intro h69
                refine wk_c1 r155_94 (wk_goto r155_95 ?_)
                subst hQ; exact wk_zret r155_99 (by decide) (⟨rfl, _, rfl, hP0, hF0, by omega, by omega, by have := cbI_c T x9_1 x9_3; omega⟩)
              · intro h70
                refine wk_al0 r155_82 (wk_getfr r155_83 fd_6_0 (br_6_0 hP0) (wk_c8 r155_86 (wk_cv2 r155_88 kc_9_239 rfl (m7239_9 _ M0 4117 x9_1 x9_3 T hP0 (by decide) ex9_1 (by first | with_reducible assumption | omega) (by first | with_reducible assumption | omega) ex9_3 (by first | with_reducible assumption | omega) (by first | with_reducible assumption | omega) (by first | assumption | omega | (unfold stepok; omega)) pp_TX pp_TC) (cqI ?_))))
                rintro v76 M71 ⟨hP72, hQ73, h77, h78, xh75⟩
                obtain rfl := Fr.same hQ73
                rw [show wix 4117 = 21 from rfl] at xh75
                refine wk_ifeq r155_91 ⟨by omega, by omega⟩ ?_ ?_
                · intro h79
                  refine wk_c1 r155_98 ?_
                  subst hQ; exact wk_zret r155_99 (by decide) (⟨rfl, _, rfl, hP0, hF0, by omega, by omega, by have := cbI_c T x9_1 x9_3; omega⟩)
                · intro h80
                  refine wk_c1 r155_94 (wk_goto r155_95 ?_)
                  subst hQ; exact wk_zret r155_99 (by decide) (⟨rfl, _, rfl, hP0, hF0, by omega, by omega, by have := cbI_c T x9_1 x9_3; omega⟩)
def fm_m7175_6 : Nat := 3940649673949184
/-- IslandHall$Parser.takeWord -/
theorem m7175_6 {B : eB} (d : Nat) (M0 : Mm) (t1 : Int) (x9_1 : Int) (x9_3 : Int) (x9_2 : Int) (T : Int → Int) (hP0 : Pw M0) (ht_t1 : 4097 ≤ t1 ∧ t1 ≤ 4132) (ex9_1 : M0 9 1 = x9_1) (lx9_1 : 0 ≤ x9_1) (ux9_1 : x9_1 ≤ 500) (ex9_3 : M0 9 3 = x9_3) (lx9_3 : 0 ≤ x9_3) (ux9_3 : x9_3 ≤ 500) (ex9_2 : M0 9 2 = x9_2) (lx9_2 : 0 ≤ x9_2) (ux9_2 : x9_2 ≤ 500) (rp0 : 0 ≤ x9_1 + (-1) * x9_2) (rp1 : 0 ≤ x9_2 + (-1) * x9_3) (rp2 : 0 ≤ x9_1 + (-1) * x9_3) (xp0 : 4111 ≤ t1) (pp_TX : TXP T M0) (pp_TC : TCP T M0) : Ct B (d + 3) 175 [R 6, R t1] M0 (qI fun z M => Pw M ∧ Fr fm_m7175_6 M0 M ∧ 0 ≤ z ∧ z ≤ 1 ∧ 0 ≤ M 9 3 + (-1) * x9_3 ∧ 0 ≤ x9_1 + (-1) * (M 9 3) ∧ 0 ≤ x9_1 + (-1) * (M 9 2) ∧ 0 ≤ M 9 2 + (-1) * (M 9 3) ∧ (z = 1 → 0 ≤ M 9 3 + (-1) * x9_3 + (-1)) ∧ ((z = 1 ∧ kw T x9_1 x9_3 = wix t1 ∧ M 9 3 = nx T x9_1 x9_3 ∧ x9_3 + 1 ≤ M 9 3) ∨ (z = 0 ∧ kw T x9_1 x9_3 ≠ wix t1 ∧ M 9 3 = x9_3 ∧ M 9 2 = x9_2)) ∧ (TXP T M) ∧ (TCP T M)) := by
  refine ct_of (d := d + 2) (k := 0) (L := [some (R 6), some (R t1)]) rfl rfl rfl ?_
  have hF0 := Fr.rf fm_m7175_6 M0
  generalize hQ : (qI fun z M => Pw M ∧ Fr fm_m7175_6 M0 M ∧ 0 ≤ z ∧ z ≤ 1 ∧ 0 ≤ M 9 3 + (-1) * x9_3 ∧ 0 ≤ x9_1 + (-1) * (M 9 3) ∧ 0 ≤ x9_1 + (-1) * (M 9 2) ∧ 0 ≤ M 9 2 + (-1) * (M 9 3) ∧ (z = 1 → 0 ≤ M 9 3 + (-1) * x9_3 + (-1)) ∧ ((z = 1 ∧ kw T x9_1 x9_3 = wix t1 ∧ M 9 3 = nx T x9_1 x9_3 ∧ x9_3 + 1 ≤ M 9 3) ∨ (z = 0 ∧ kw T x9_1 x9_3 ≠ wix t1 ∧ M 9 3 = x9_3 ∧ M 9 2 = x9_2)) ∧ (TXP T M) ∧ (TCP T M)) = Q
  have hnl := nx_lt (T := T) (n := x9_1) (s := x9_3) (by omega)
  have hkl := kw_lt (T := T) (n := x9_1) (s := x9_3)
  have hwx := wix_nn xp0 ht_t1.2
  refine wk_al0 r175_0 (wk_getfr r175_1 fd_6_0 (br_6_0 hP0) (wk_al1 r175_4 (wk_cv2 r175_5 kc_9_239 rfl (m7239_9 _ M0 t1 x9_1 x9_3 T hP0 ht_t1 ex9_1 (by first | with_reducible assumption | omega) (by first | with_reducible assumption | omega) ex9_3 (by first | with_reducible assumption | omega) (by first | with_reducible assumption | omega) (by first | assumption | omega | (unfold stepok; omega)) pp_TX pp_TC) (cqI ?_))))
  rintro v6 M1 ⟨hP2, hQ3, h7, h8, xh5⟩
  obtain rfl := Fr.same hQ3
  refine wk_ifne r175_8 ⟨by omega, by omega⟩ ?_ ?_
  · intro h9
    refine wk_al0 r175_13 (wk_getfr r175_14 fd_6_0 (br_6_0 hP0) (wk_cv1 r175_17 kc_9_241 rfl (m7241_9 _ M0 x9_1 x9_2 T hP0 ex9_1 (by first | with_reducible assumption | omega) (by first | with_reducible assumption | omega) ex9_2 (by first | with_reducible assumption | omega) (by first | with_reducible assumption | omega) (by omega) pp_TX) (cqV ?_)))
    rintro M10 ⟨hP11, hQ12, h14, h15, h16, h17, xh18, pr19, pr20⟩
    have hF13 : Fr fm_m7175_6 M0 M10 := hF0.tr hQ12 rfl
    obtain ⟨v21, e22⟩ : ∃ v, M10 9 3 = v := ⟨_, rfl⟩
    have h23 := (bf_9_3 hP11).1; rw [e22] at h23
    have h24 := (bf_9_3 hP11).2; rw [e22] at h24
    obtain ⟨v25, e26⟩ : ∃ v, M10 9 2 = v := ⟨_, rfl⟩
    have h27 := (bf_9_2 hP11).1; rw [e26] at h27
    have h28 := (bf_9_2 hP11).2; rw [e26] at h28
    have hn29 := nx_of pp_TC ex9_1 ex9_3 ex9_2 xh18
    refine wk_c1 r175_20 ?_
    subst hQ; exact wk_zret r175_21 (by decide) (⟨rfl, _, rfl, hP11, hF13, by omega, by omega, by have := e22; omega, by have := e22; omega, by have := e26; omega, by have := e26; have := e22; omega, by have := e22; omega, by have := e22; have := e26; have := wix_nn xp0 ht_t1.2; have := kw_lt (T := T) (n := x9_1) (s := x9_3); have := nx_lt (T := T) (n := x9_1) (s := x9_3) (by omega); omega, pr19, pr20⟩)
  · intro h30
    refine wk_c1 r175_11 ?_
    subst hQ; exact wk_zret r175_12 (by decide) (⟨rfl, _, rfl, hP0, hF0, by omega, by omega, by have := ex9_3; omega, by have := ex9_3; omega, by have := ex9_2; omega, by have := ex9_2; have := ex9_3; omega, by omega, by have := ex9_3; have := ex9_2; have := wix_nn xp0 ht_t1.2; have := kw_lt (T := T) (n := x9_1) (s := x9_3); have := nx_lt (T := T) (n := x9_1) (s := x9_3) (by omega); omega, pp_TX, pp_TC⟩)
def fm_m7159_6 : Nat := 412316860416
/-- IslandHall$Parser.fail -/
theorem m7159_6 {B : eB} (d : Nat) (M0 : Mm) (p1 : Int) (x9_3 : Int) (hP0 : Pw M0) (l1 : 1 ≤ p1) (u1 : p1 ≤ 6) (ex9_3 : M0 9 3 = x9_3) (lx9_3 : 0 ≤ x9_3) (ux9_3 : x9_3 ≤ 500) : Ct B (d + 1) 159 [R 6, I p1] M0 (qI fun z M => Pw M ∧ Fr fm_m7159_6 M0 M ∧ 0 ≤ z ∧ z ≤ 0 ∧ 0 ≤ M 6 4 + (-1) * p1 ∧ 0 ≤ (-1) * (M 6 4) + p1 ∧ 0 ≤ M 6 5 + (-1) * x9_3 ∧ 0 ≤ (-1) * (M 6 5) + x9_3) := by
  refine ct_of (d := d + 0) (k := 0) (L := [some (R 6), some (I p1)]) rfl rfl rfl ?_
  have hF0 := Fr.rf fm_m7159_6 M0
  generalize hQ : (qI fun z M => Pw M ∧ Fr fm_m7159_6 M0 M ∧ 0 ≤ z ∧ z ≤ 0 ∧ 0 ≤ M 6 4 + (-1) * p1 ∧ 0 ≤ (-1) * (M 6 4) + p1 ∧ 0 ≤ M 6 5 + (-1) * x9_3 ∧ 0 ≤ (-1) * (M 6 5) + x9_3) = Q
  refine wk_al0 r159_0 (wk_il1 r159_1 (wk_putfi81 r159_2 fd_6_4 (wk_nw g_6_4 rfl hP0 hF0 (uf_6_4 ⟨by omega, by omega⟩) ?_)))
  intro M1 hP2 hF3 e4
  refine wk_al0 r159_5 (wk_al0 r159_6 (wk_getfr r159_7 fd_6_0 (br_6_0 hP2) (wk_getfi r159_10 fd_9_3 (mUp_no e4 ex9_3 (Or.inl (by decide))) (wk_putfi81 r159_13 fd_6_5 (wk_nw g_6_5 rfl hP2 hF3 (uf_6_5 ⟨by omega, by omega⟩) ?_)))))
  intro M5 hP6 hF7 e8
  refine wk_c1 r159_16 ?_
  subst hQ; exact wk_zret r159_17 (by decide) (⟨rfl, _, rfl, hP6, hF7, by omega, by omega, by have := (mUp_no e8 (mUp_at e4) (Or.inr (by decide))); omega, by have := (mUp_no e8 (mUp_at e4) (Or.inr (by decide))); omega, by have := (mUp_at e8); omega, by have := (mUp_at e8); omega⟩)
def fm_m7240_9 : Nat := 0
/-- IslandHall$Tokens.kind -/
theorem m7240_9 {B : eB} (d : Nat) (M0 : Mm) (x9_1 : Int) (x9_3 : Int) (T : Int → Int) (hP0 : Pw M0) (ex9_1 : M0 9 1 = x9_1) (lx9_1 : 0 ≤ x9_1) (ux9_1 : x9_1 ≤ 500) (ex9_3 : M0 9 3 = x9_3) (lx9_3 : 0 ≤ x9_3) (ux9_3 : x9_3 ≤ 500) (pp_TX : TXP T M0) (pp_TC : TCP T M0) : Ct B (d + 3) 240 [R 9] M0 (qI fun z M => Pw M ∧ Fr fm_m7240_9 M0 M ∧ (-1) ≤ z ∧ z ≤ 4 ∧ (z = kdI T x9_1 x9_3)) := by
  refine ct_of (d := d + 2) (k := 0) (L := [some (R 9)]) rfl rfl rfl ?_
  have hF0 := Fr.rf fm_m7240_9 M0
  generalize hQ : (qI fun z M => Pw M ∧ Fr fm_m7240_9 M0 M ∧ (-1) ≤ z ∧ z ≤ 4 ∧ (z = kdI T x9_1 x9_3)) = Q
  refine wk_al0 r240_0 (wk_c8 r240_1 (wk_cv2 r240_3 kc_9_239 rfl (m7239_9 _ M0 4128 x9_1 x9_3 T hP0 (by decide) ex9_1 (by first | with_reducible assumption | omega) (by first | with_reducible assumption | omega) ex9_3 (by first | with_reducible assumption | omega) (by first | with_reducible assumption | omega) (by first | assumption | omega | (unfold stepok; omega)) pp_TX pp_TC) (cqI ?_)))
  rintro v6 M1 ⟨hP2, hQ3, h7, h8, xh5⟩
  obtain rfl := Fr.same hQ3
  rw [show wix 4128 = 0 from rfl] at xh5
  refine wk_ifeq r240_6 ⟨by omega, by omega⟩ ?_ ?_
  · intro h9
    refine wk_al0 r240_11 (wk_c8 r240_12 (wk_cv2 r240_14 kc_9_239 rfl (m7239_9 _ M0 4129 x9_1 x9_3 T hP0 (by decide) ex9_1 (by first | with_reducible assumption | omega) (by first | with_reducible assumption | omega) ex9_3 (by first | with_reducible assumption | omega) (by first | with_reducible assumption | omega) (by first | assumption | omega | (unfold stepok; omega)) pp_TX pp_TC) (cqI ?_)))
    rintro v15 M10 ⟨hP11, hQ12, h16, h17, xh14⟩
    obtain rfl := Fr.same hQ12
    rw [show wix 4129 = 1 from rfl] at xh14
    refine wk_ifeq r240_17 ⟨by omega, by omega⟩ ?_ ?_
    · intro h18
      refine wk_al0 r240_22 (wk_c8 r240_23 (wk_cv2 r240_25 kc_9_239 rfl (m7239_9 _ M0 4130 x9_1 x9_3 T hP0 (by decide) ex9_1 (by first | with_reducible assumption | omega) (by first | with_reducible assumption | omega) ex9_3 (by first | with_reducible assumption | omega) (by first | with_reducible assumption | omega) (by first | assumption | omega | (unfold stepok; omega)) pp_TX pp_TC) (cqI ?_)))
      rintro v24 M19 ⟨hP20, hQ21, h25, h26, xh23⟩
      obtain rfl := Fr.same hQ21
      rw [show wix 4130 = 2 from rfl] at xh23
      refine wk_ifeq r240_28 ⟨by omega, by omega⟩ ?_ ?_
      · intro h27
        refine wk_al0 r240_33 (wk_c8 r240_34 (wk_cv2 r240_36 kc_9_239 rfl (m7239_9 _ M0 4131 x9_1 x9_3 T hP0 (by decide) ex9_1 (by first | with_reducible assumption | omega) (by first | with_reducible assumption | omega) ex9_3 (by first | with_reducible assumption | omega) (by first | with_reducible assumption | omega) (by first | assumption | omega | (unfold stepok; omega)) pp_TX pp_TC) (cqI ?_)))
        rintro v33 M28 ⟨hP29, hQ30, h34, h35, xh32⟩
        obtain rfl := Fr.same hQ30
        rw [show wix 4131 = 3 from rfl] at xh32
        refine wk_ifeq r240_39 ⟨by omega, by omega⟩ ?_ ?_
        · intro h36
          refine wk_al0 r240_44 (wk_c8 r240_45 (wk_cv2 r240_47 kc_9_239 rfl (m7239_9 _ M0 4132 x9_1 x9_3 T hP0 (by decide) ex9_1 (by first | with_reducible assumption | omega) (by first | with_reducible assumption | omega) ex9_3 (by first | with_reducible assumption | omega) (by first | with_reducible assumption | omega) (by first | assumption | omega | (unfold stepok; omega)) pp_TX pp_TC) (cqI ?_)))
          rintro v42 M37 ⟨hP38, hQ39, h43, h44, xh41⟩
          obtain rfl := Fr.same hQ39
          rw [show wix 4132 = 4 from rfl] at xh41
          refine wk_ifeq r240_50 ⟨by omega, by omega⟩ ?_ ?_
          · intro h45
            refine wk_c1 r240_57 ?_
            subst hQ; exact wk_iret r240_58 (⟨rfl, _, rfl, hP0, hF0, by omega, by omega, by have := kdI_c T x9_1 x9_3; omega⟩)
          · intro h46
            refine wk_c1 r240_53 (wk_goto r240_54 ?_)
            subst hQ; exact wk_iret r240_58 (⟨rfl, _, rfl, hP0, hF0, by omega, by omega, by have := kdI_c T x9_1 x9_3; omega⟩)
        · intro h47
          refine wk_c1 r240_42 ?_
          subst hQ; exact wk_iret r240_43 (⟨rfl, _, rfl, hP0, hF0, by omega, by omega, by have := kdI_c T x9_1 x9_3; omega⟩)
      · intro h48
        refine wk_c1 r240_31 ?_
        subst hQ; exact wk_iret r240_32 (⟨rfl, _, rfl, hP0, hF0, by omega, by omega, by have := kdI_c T x9_1 x9_3; omega⟩)
    · intro h49
      refine wk_c1 r240_20 ?_
      subst hQ; exact wk_iret r240_21 (⟨rfl, _, rfl, hP0, hF0, by omega, by omega, by have := kdI_c T x9_1 x9_3; omega⟩)
  · intro h50
    refine wk_c1 r240_9 ?_
    subst hQ; exact wk_iret r240_10 (⟨rfl, _, rfl, hP0, hF0, by omega, by omega, by have := kdI_c T x9_1 x9_3; omega⟩)
def fm_m7173_6 : Nat := 3941061990809600
/-- IslandHall$Parser.takeKind -/
theorem m7173_6 {B : eB} (d : Nat) (M0 : Mm) (x9_1 : Int) (x9_3 : Int) (x9_2 : Int) (x6_4 : Int) (x6_5 : Int) (T : Int → Int) (hP0 : Pw M0) (ex9_1 : M0 9 1 = x9_1) (lx9_1 : 0 ≤ x9_1) (ux9_1 : x9_1 ≤ 500) (ex9_3 : M0 9 3 = x9_3) (lx9_3 : 0 ≤ x9_3) (ux9_3 : x9_3 ≤ 500) (ex9_2 : M0 9 2 = x9_2) (lx9_2 : 0 ≤ x9_2) (ux9_2 : x9_2 ≤ 500) (ex6_4 : M0 6 4 = x6_4) (lx6_4 : 0 ≤ x6_4) (ux6_4 : x6_4 ≤ 6) (ex6_5 : M0 6 5 = x6_5) (lx6_5 : (-1) ≤ x6_5) (ux6_5 : x6_5 ≤ 500) (rp0 : 0 ≤ x9_1 + (-1) * x9_2) (rp1 : 0 ≤ x9_2 + (-1) * x9_3) (rp2 : 0 ≤ x9_1 + (-1) * x9_3) (pp_TX : TXP T M0) (pp_TC : TCP T M0) : Ct B (d + 4) 173 [R 6] M0 (qI fun z M => Pw M ∧ Fr fm_m7173_6 M0 M ∧ (-1) ≤ z ∧ z ≤ 4 ∧ 0 ≤ M 9 3 + (-1) * x9_3 ∧ 0 ≤ x9_1 + (-1) * (M 9 3) ∧ 0 ≤ x9_1 + (-1) * (M 9 2) ∧ 0 ≤ M 9 2 + (-1) * (M 9 3) ∧ 0 ≤ M 6 4 ∧ 0 ≤ M 6 5 + 1 ∧ ((z = kdI T x9_1 x9_3 ∧ kdE T x9_1 x9_3 = 0 ∧ M 9 3 = nx T x9_1 x9_3 ∧ M 6 4 = x6_4 ∧ M 6 5 = x6_5 ∧ x9_3 + 1 ≤ M 9 3 ∧ 0 ≤ z) ∨ (z = -1 ∧ kdE T x9_1 x9_3 ≠ 0 ∧ M 9 3 = x9_3 ∧ M 6 4 = kdE T x9_1 x9_3 ∧ M 6 5 = x9_3)) ∧ (TXP T M) ∧ (TCP T M)) := by
  refine ct_of (d := d + 3) (k := 1) (L := [some (R 6), none]) rfl rfl rfl ?_
  have hF0 := Fr.rf fm_m7173_6 M0
  generalize hQ : (qI fun z M => Pw M ∧ Fr fm_m7173_6 M0 M ∧ (-1) ≤ z ∧ z ≤ 4 ∧ 0 ≤ M 9 3 + (-1) * x9_3 ∧ 0 ≤ x9_1 + (-1) * (M 9 3) ∧ 0 ≤ x9_1 + (-1) * (M 9 2) ∧ 0 ≤ M 9 2 + (-1) * (M 9 3) ∧ 0 ≤ M 6 4 ∧ 0 ≤ M 6 5 + 1 ∧ ((z = kdI T x9_1 x9_3 ∧ kdE T x9_1 x9_3 = 0 ∧ M 9 3 = nx T x9_1 x9_3 ∧ M 6 4 = x6_4 ∧ M 6 5 = x6_5 ∧ x9_3 + 1 ≤ M 9 3 ∧ 0 ≤ z) ∨ (z = -1 ∧ kdE T x9_1 x9_3 ≠ 0 ∧ M 9 3 = x9_3 ∧ M 6 4 = kdE T x9_1 x9_3 ∧ M 6 5 = x9_3)) ∧ (TXP T M) ∧ (TCP T M)) = Q
  have hTC := pp_TC
  unfold TCP at hTC
  rw [ex9_1, ex9_3] at hTC
  have hlt := tt_lt T x9_1 x9_3
  refine wk_al0 r173_0 (wk_getfr r173_1 fd_6_0 (br_6_0 hP0) (wk_cv1 r173_4 kc_9_240 rfl (m7240_9 _ M0 x9_1 x9_3 T hP0 ex9_1 (by first | with_reducible assumption | omega) (by first | with_reducible assumption | omega) ex9_3 (by first | with_reducible assumption | omega) (by first | with_reducible assumption | omega) pp_TX pp_TC) (cqI ?_)))
  rintro v6 M1 ⟨hP2, hQ3, h7, h8, xh5⟩
  obtain rfl := Fr.same hQ3
  refine wk_is1 r173_7 rfl (wk_il1 r173_8 (wk_c1 r173_9 ?_))
  refine wk_icne r173_10 ⟨by omega, by omega⟩ (by decide) ?_ ?_
  · intro h9
    refine wk_al0 r173_36 (wk_getfr r173_37 fd_6_0 (br_6_0 hP0) (wk_cv1 r173_40 kc_9_241 rfl (m7241_9 _ M0 x9_1 x9_2 T hP0 ex9_1 (by first | with_reducible assumption | omega) (by first | with_reducible assumption | omega) ex9_2 (by first | with_reducible assumption | omega) (by first | with_reducible assumption | omega) (by omega) pp_TX) (cqV ?_)))
    rintro M10 ⟨hP11, hQ12, h14, h15, h16, h17, xh18, pr19, pr20⟩
    have hF13 : Fr fm_m7173_6 M0 M10 := hF0.tr hQ12 rfl
    obtain ⟨v21, e22⟩ : ∃ v, M10 9 3 = v := ⟨_, rfl⟩
    have h23 := (bf_9_3 hP11).1; rw [e22] at h23
    have h24 := (bf_9_3 hP11).2; rw [e22] at h24
    obtain ⟨v25, e26⟩ : ∃ v, M10 9 2 = v := ⟨_, rfl⟩
    have h27 := (bf_9_2 hP11).1; rw [e26] at h27
    have h28 := (bf_9_2 hP11).2; rw [e26] at h28
    have hn29 := nx_of pp_TC ex9_1 ex9_3 ex9_2 xh18
    refine wk_il1 r173_43 ?_
    subst hQ; exact wk_iret r173_44 (⟨rfl, _, rfl, hP11, hF13, by omega, by omega, by have := e22; omega, by have := e22; omega, by have := e26; omega, by have := e26; have := e22; omega, by have := ((hQ12.at g_6_4 rfl).trans ex6_4); omega, by have := ((hQ12.at g_6_5 rfl).trans ex6_5); omega, by have := e22; have := e26; have := ((hQ12.at g_6_4 rfl).trans ex6_4); have := ((hQ12.at g_6_5 rfl).trans ex6_5); have := kdI_c T x9_1 x9_3; have := tt_lt T x9_1 x9_3; have := nx_lt (T := T) (n := x9_1) (s := x9_3) (by omega); omega, pr19, pr20⟩)
  · intro h30
    refine wk_al0 r173_13 (wk_al0 r173_14 (wk_getfr r173_15 fd_6_0 (br_6_0 hP0) (wk_getfb r173_18 fd_9_4 (bf_9_4 hP0) ?_)))
    intro v31 h33 h34 e32
    refine wk_c1 r173_21 ?_
    refine wk_icne r173_22 ⟨by omega, by omega⟩ (by decide) ?_ ?_
    · intro h35
      refine wk_c1 r173_29 (wk_cv2 r173_30 kc_6_159 rfl (m7159_6 _ M0 1 x9_3 hP0 (by decide) (by decide) ex9_3 (by first | with_reducible assumption | omega) (by first | with_reducible assumption | omega)) (cqI ?_))
      rintro v44 M36 ⟨hP37, hQ38, h45, h46, h40, h41, h42, h43⟩
      have hF39 : Fr fm_m7173_6 M0 M36 := hF0.tr hQ38 rfl
      obtain ⟨v47, e48⟩ : ∃ v, M36 6 4 = v := ⟨_, rfl⟩
      have h49 := (bf_6_4 hP37).1; rw [e48] at h49
      have h50 := (bf_6_4 hP37).2; rw [e48] at h50
      obtain ⟨v51, e52⟩ : ∃ v, M36 6 5 = v := ⟨_, rfl⟩
      have h53 := (bf_6_5 hP37).1; rw [e52] at h53
      have h54 := (bf_6_5 hP37).2; rw [e52] at h54
      refine wk_popi r173_33 (wk_c1 r173_34 ?_)
      subst hQ; exact wk_iret r173_35 (⟨rfl, _, rfl, hP37, hF39, by omega, by omega, by have := ((hQ38.at g_9_3 rfl).trans ex9_3); omega, by have := ((hQ38.at g_9_3 rfl).trans ex9_3); omega, by have := ((hQ38.at g_9_2 rfl).trans ex9_2); omega, by have := ((hQ38.at g_9_2 rfl).trans ex9_2); have := ((hQ38.at g_9_3 rfl).trans ex9_3); omega, by have := e48; omega, by have := e52; omega, by have := ((hQ38.at g_9_3 rfl).trans ex9_3); have := ((hQ38.at g_9_2 rfl).trans ex9_2); have := e48; have := e52; have := kdI_c T x9_1 x9_3; have := tt_lt T x9_1 x9_3; have := nx_lt (T := T) (n := x9_1) (s := x9_3) (by omega); omega, (TXP_sm (Sm.fr hQ38 rfl) pp_TX), (TCP_sm (Sm.fr hQ38 rfl) pp_TC)⟩)
    · intro h55
      refine wk_c1 r173_25 (wk_goto r173_26 (wk_cv2 r173_30 kc_6_159 rfl (m7159_6 _ M0 3 x9_3 hP0 (by decide) (by decide) ex9_3 (by first | with_reducible assumption | omega) (by first | with_reducible assumption | omega)) (cqI ?_)))
      rintro v64 M56 ⟨hP57, hQ58, h65, h66, h60, h61, h62, h63⟩
      have hF59 : Fr fm_m7173_6 M0 M56 := hF0.tr hQ58 rfl
      obtain ⟨v67, e68⟩ : ∃ v, M56 6 4 = v := ⟨_, rfl⟩
      have h69 := (bf_6_4 hP57).1; rw [e68] at h69
      have h70 := (bf_6_4 hP57).2; rw [e68] at h70
      obtain ⟨v71, e72⟩ : ∃ v, M56 6 5 = v := ⟨_, rfl⟩
      have h73 := (bf_6_5 hP57).1; rw [e72] at h73
      have h74 := (bf_6_5 hP57).2; rw [e72] at h74
      refine wk_popi r173_33 (wk_c1 r173_34 ?_)
      subst hQ; exact wk_iret r173_35 (⟨rfl, _, rfl, hP57, hF59, by omega, by omega, by have := ((hQ58.at g_9_3 rfl).trans ex9_3); omega, by have := ((hQ58.at g_9_3 rfl).trans ex9_3); omega, by have := ((hQ58.at g_9_2 rfl).trans ex9_2); omega, by have := ((hQ58.at g_9_2 rfl).trans ex9_2); have := ((hQ58.at g_9_3 rfl).trans ex9_3); omega, by have := e68; omega, by have := e72; omega, by have := ((hQ58.at g_9_3 rfl).trans ex9_3); have := ((hQ58.at g_9_2 rfl).trans ex9_2); have := e68; have := e72; have := kdI_c T x9_1 x9_3; have := tt_lt T x9_1 x9_3; have := nx_lt (T := T) (n := x9_1) (s := x9_3) (by omega); omega, (TXP_sm (Sm.fr hQ58 rfl) pp_TX), (TCP_sm (Sm.fr hQ58 rfl) pp_TC)⟩)
