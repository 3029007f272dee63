/-! ===== written by program (wip/layer2/all.py): contracts of methods ===== -/
def fm_m185_176v4 : Nat := 0
/-- IslandHall$Realm.alike -/
theorem m185_176v4 {B : eB} (d : Nat) (M0 : Mm) (p1 : Int) (p2 : Int) (hP0 : Pw M0) (l1 : 0 ≤ p1) (u1 : p1 ≤ 54) (l2 : 0 ≤ p2) (u2 : p2 ≤ 4) (xp0 : p1 % 8 ≤ 6) : Ct B (d + 1) 185 [R 176, I p1, I p2] M0 (qL fun z M => Pw M ∧ Fr fm_m185_176v4 M0 M ∧ z < 18446744073709551616) := by
  refine ct_of (d := d + 0) (k := 5) (L := [some (R 176), some (I p1), some (I p2), none, none, none, none, none]) rfl rfl rfl ?_
  have hF0 := Fr.rf fm_m185_176v4 M0
  generalize hQ : (qL fun z M => Pw M ∧ Fr fm_m185_176v4 M0 M ∧ z < 18446744073709551616) = Q
  refine wk_c1 r185_0 (wk_il1 r185_1 (wk_c1 r185_2 (wk_ishrc r185_3 ⟨by omega, by omega⟩ (by decide) pwl_3 (wk_c1 r185_4 (wk_imul r185_5 (wk_iadd r185_6 (wk_is3 r185_7 rfl (wk_c1 r185_8 (wk_il1 r185_9 (wk_c2 r185_10 (wk_iandc 3 8 r185_12 ⟨rfl, by decide⟩ rfl (wk_c1 r185_13 (wk_imul r185_14 (wk_iadd r185_15 (wk_is4 r185_16 rfl (wk_c6 r185_18 (wk_ls5 r185_19 rfl (wk_c1 r185_21 (wk_is7 r185_22 rfl ?_)))))))))))))))))))
  have c24_170 : ∀ (k170 : Nat) (n146 : Nat) (v148 : Int), (5 - v148).toNat = k170 → n146 < 18446744073709551616 → 0 ≤ v148 → v148 ≤ 5 → Wp B (d + 0) 185 24 [some (R 176), none, some (I p2), some (I (0 + ((p1 / 8) * 5))), some (I (0 + ((p1 % 8) * 5))), some (J n146), none, some (I v148)] [] M0 Q := by
    refine lp_ind ?_
    intro k170 ih170 n146 v148 hk170 h147 h149 h150
    refine wk_il7 r185_24 (wk_c1 r185_26 ?_)
    refine wk_icge r185_27 ⟨by omega, by omega⟩ (by decide) ?_ ?_
    · intro h151
      refine wk_ll5 r185_65 ?_
      subst hQ; exact wk_lret r185_67 (⟨rfl, _, rfl, hP0, hF0, by omega⟩)
    · intro h152
      refine wk_ll5 r185_30 (wk_al0 r185_32 (wk_getfr r185_33 fd_176_0 (br_176_0 hP0) (wk_il3 r185_36 (wk_il7 r185_37 (wk_iadd r185_39 (wk_raldb r185_40 ar_182 ⟨by omega, by omega⟩ (fun q0 q1 => ba_182 hP0 q0 q1) (wk_il2 r185_41 (wk_laldb r185_42 (arF_183 (by omega) (by omega)) ⟨by omega, by omega⟩ (fun q0 q1 => baF_183 hP0 (by omega) (by omega) q0 q1) (by decide) ?_))))))))
      intro n153 h155 h156 e154
      refine wk_al0 r185_43 (wk_getfr r185_44 fd_176_0 (br_176_0 hP0) (wk_il4 r185_47 (wk_il7 r185_49 (wk_iadd r185_51 (wk_raldb r185_52 ar_182 ⟨by omega, by omega⟩ (fun q0 q1 => ba_182 hP0 q0 q1) (wk_il2 r185_53 (wk_laldb r185_54 (arF_183 (by omega) (by omega)) ⟨by omega, by omega⟩ (fun q0 q1 => baF_183 hP0 (by omega) (by omega) q0 q1) (by decide) ?_)))))))
      intro n157 h159 h160 e158
      refine wk_land r185_55 ?_
      intro n161 h162 h163 h164 h165
      refine wk_lorb r185_56 ?_
      intro n166 h167 h168 h169
      refine wk_ls5 r185_57 rfl (wk_inc7 r185_59 rfl (wk_goto r185_62 ?_))
      exact wp_fg (le_s (le_s (le_s (le_s (le_s (le_s (le_s (le_s le_0)))))))) (ih170 (5 - (v148 + 1)).toNat (by omega) n166 (v148 + 1) rfl (by omega) (by omega) (by omega))
  exact wp_fg (le_s (le_n (le_s (le_s (le_s (le_s (le_s (le_s le_0)))))))) (c24_170 _ 0 0 rfl (by omega) (by omega) (by omega))
def fm_m198_176v4 : Nat := 0
/-- IslandHall$Realm.many -/
theorem m198_176v4 {B : eB} (d : Nat) (M0 : Mm) (p1 : Int) (p2 : Int) (hP0 : Pw M0) (l1 : 0 ≤ p1) (u1 : p1 ≤ 1279) (l2 : 0 ≤ p2) (u2 : p2 ≤ 4) : Ct B (d + 1) 198 [R 176, I p1, I p2] M0 (qL fun z M => Pw M ∧ Fr fm_m198_176v4 M0 M ∧ z < 18446744073709551616) := by
  refine ct_of (d := d + 0) (k := 4) (L := [some (R 176), some (I p1), some (I p2), none, none, none, none]) rfl rfl rfl ?_
  have hF0 := Fr.rf fm_m198_176v4 M0
  generalize hQ : (qL fun z M => Pw M ∧ Fr fm_m198_176v4 M0 M ∧ z < 18446744073709551616) = Q
  refine wk_c2 r198_0 (wk_il1 r198_2 (wk_c2 r198_3 (wk_ishrc r198_5 ⟨by omega, by omega⟩ (by decide) pwl_8 (wk_c2 r198_6 (wk_imul r198_8 (wk_iadd r198_9 (wk_is3 r198_10 rfl (wk_c6 r198_11 (wk_ls4 r198_12 rfl (wk_c1 r198_14 (wk_is6 r198_15 rfl ?_)))))))))))
  have c17_178 : ∀ (k178 : Nat) (n156 : Nat) (v158 : Int), (8 - v158).toNat = k178 → n156 < 18446744073709551616 → 0 ≤ v158 → v158 ≤ 8 → Wp B (d + 0) 198 17 [some (R 176), some (I p1), some (I p2), some (I (48 + ((p1 / 256) * 8))), some (J n156), none, some (I v158)] [] M0 Q := by
    refine lp_ind ?_
    intro k178 ih178 n156 v158 hk178 h157 h159 h160
    refine wk_il6 r198_17 (wk_c2 r198_19 ?_)
    refine wk_icgt r198_21 ⟨by omega, by omega⟩ (by decide) ?_ ?_
    · intro h161
      refine wk_ll4 r198_56 ?_
      subst hQ; exact wk_lret r198_58 (⟨rfl, _, rfl, hP0, hF0, by omega⟩)
    · intro h162
      refine wk_il1 r198_24 (wk_il6 r198_25 (wk_shrb r198_27 ⟨by omega, by omega⟩ ⟨by omega, by omega⟩ ?_))
      intro v163 h164 h165 h166
      refine wk_c1 r198_28 (wk_iandc 1 2 r198_29 ⟨rfl, by decide⟩ rfl (wk_c1 r198_30 ?_))
      refine wk_icne r198_31 ⟨by omega, by omega⟩ (by decide) ?_ ?_
      · intro h168
        refine wk_inc6 r198_50 rfl (wk_goto r198_53 ?_)
        exact wp_fg (le_s (le_s (le_s (le_s (le_s (le_s (le_s le_0))))))) (ih178 (8 - (v158 + 1)).toNat (by omega) n156 (v158 + 1) rfl (by omega) (by omega) (by omega))
      · intro h169
        refine wk_ll4 r198_34 (wk_al0 r198_36 (wk_getfr r198_37 fd_176_0 (br_176_0 hP0) (wk_il3 r198_40 (wk_il6 r198_41 (wk_iadd r198_43 (wk_raldb r198_44 ar_182 ⟨by omega, by omega⟩ (fun q0 q1 => ba_182 hP0 q0 q1) (wk_il2 r198_45 (wk_laldb r198_46 (arF_183 (by omega) (by omega)) ⟨by omega, by omega⟩ (fun q0 q1 => baF_183 hP0 (by omega) (by omega) q0 q1) (by decide) ?_))))))))
        intro n170 h172 h173 e171
        refine wk_lorb r198_47 ?_
        intro n174 h175 h176 h177
        refine wk_ls4 r198_48 rfl (wk_inc6 r198_50 rfl (wk_goto r198_53 ?_))
        exact wp_fg (le_s (le_s (le_s (le_s (le_s (le_s (le_s le_0))))))) (ih178 (8 - (v158 + 1)).toNat (by omega) n174 (v158 + 1) rfl (by omega) (by omega) (by omega))
  exact wp_fg (le_s (le_s (le_s (le_s (le_s (le_s (le_s le_0))))))) (c17_178 _ 0 0 rfl (by omega) (by omega) (by omega))
def fm_m189_176v4 : Nat := 0
/-- IslandHall$Realm.fits -/
theorem m189_176v4 {B : eB} (d : Nat) (M0 : Mm) (p1 : Int) (p2 : Int) (p3 : Nat) (p4 : Int) (hP0 : Pw M0) (l1 : 0 ≤ p1) (u1 : p1 ≤ 6) (l2 : (-1) ≤ p2) (u2 : p2 ≤ (-1)) (l3 : p3 < 18446744073709551616) (l4 : 0 ≤ p4) (u4 : p4 ≤ 4) : Ct B (d + 2) 189 [R 176, I p1, I p2, J p3, I p4] M0 (qL fun z M => Pw M ∧ Fr fm_m189_176v4 M0 M ∧ z < 18446744073709551616) := by
  refine ct_of (d := d + 1) (k := 0) (L := [some (R 176), some (I p1), some (I p2), some (J p3), none, some (I p4)]) rfl rfl rfl ?_
  have hF0 := Fr.rf fm_m189_176v4 M0
  generalize hQ : (qL fun z M => Pw M ∧ Fr fm_m189_176v4 M0 M ∧ z < 18446744073709551616) = Q
  refine wk_al0 r189_0 (wk_il1 r189_1 (wk_cv2 r189_2 kc_176_190 rfl (m190_176 _ M0 p1 hP0 (by omega) (by omega)) (cqR ?_)))
  rintro v5 M1 ⟨hP2, hQ3, h6, h7⟩
  obtain rfl := Fr.same hQ3
  refine wk_il5 r189_5 (wk_laldb r189_7 (arF_183 (by omega) (by omega)) ⟨by omega, by omega⟩ (fun q0 q1 => baF_183 hP0 (by omega) (by omega) q0 q1) (by decide) ?_)
  intro n8 h10 h11 e9
  refine wk_al0 r189_8 (wk_il2 r189_9 (wk_cv2 r189_10 kc_176_208 rfl (m208_176 _ M0 p2 hP0 (by omega) (by omega)) (cqR ?_)))
  rintro v16 M12 ⟨hP13, hQ14, h17, h18⟩
  obtain rfl : v16 = 301 := by omega
  obtain rfl := Fr.same hQ14
  refine wk_il5 r189_13 (wk_laldb r189_15 (arF_301 (by omega) (by omega)) ⟨by omega, by omega⟩ (fun q0 q1 => ⟨(b4_301 hP0 (by omega) (by omega) q0 q1).1, (b4_301 hP0 (by omega) (by omega) q0 q1).2.1⟩) (by decide) ?_)
  intro n19 h21 h22 e20
  have h23 : p4 = 4 → n19 ≤ 17592186044415 := by have := b4_301 hP0 (a := 301) (i := p4) (by omega) (by omega) (by omega) (by omega); omega
  refine wk_ll3 r189_16 (wk_lxor r189_17 ?_)
  intro n24 h25 h26
  refine wk_al0 r189_18 (wk_il1 r189_19 (wk_cv2 r189_20 kc_176_193 rfl (m193_176 _ M0 p1 hP0 (by omega) (by omega)) (cqR ?_)))
  rintro v31 M27 ⟨hP28, hQ29, h32, h33⟩
  obtain rfl := Fr.same hQ29
  refine wk_il5 r189_23 (wk_laldb r189_25 (arF_183 (by omega) (by omega)) ⟨by omega, by omega⟩ (fun q0 q1 => baF_183 hP0 (by omega) (by omega) q0 q1) (by decide) ?_)
  intro n34 h36 h37 e35
  refine wk_lxor r189_26 ?_
  intro n38 h39 h40
  refine wk_lorb r189_27 ?_
  intro n41 h42 h43 h44
  subst hQ; exact wk_lret r189_28 (⟨rfl, _, rfl, hP0, hF0, by omega⟩)
def fm_m207_176v4 : Nat := 83076749736557242056487941267521536
/-- IslandHall$Realm.truth -/
theorem m207_176v4 {B : eB} (d : Nat) (M0 : Mm) (c1 : Int) (p2 : Int) (hP0 : Pw M0) (hC1 : isC c1) (l2 : 0 ≤ p2) (u2 : p2 ≤ 4) : Ct B (d + 3) 207 [R 176, R c1, I p2] M0 (qL fun z M => Pw M ∧ Fr fm_m207_176v4 M0 M ∧ z < 18446744073709551616) := by
  refine ct_of (d := d + 2) (k := 7) (L := [some (R 176), some (R c1), some (I p2), none, none, none, none, none, none, none]) rfl rfl rfl ?_
  have hF0 := Fr.rf fm_m207_176v4 M0
  generalize hQ : (qL fun z M => Pw M ∧ Fr fm_m207_176v4 M0 M ∧ z < 18446744073709551616) = Q
  refine wk_c1 r207_0 (wk_is3 r207_1 rfl (wk_c1 r207_2 (wk_is4 r207_3 rfl ?_)))
  have c5_2432 : ∀ (k2432 : Nat) (M2176 : Mm) (v2170 : Int) (v2173 : Int), (256 - v2173).toNat = k2432 → Pw M2176 → Fr fm_m207_176v4 M0 M2176 → 0 ≤ v2170 → v2170 ≤ 31 → 0 ≤ v2173 → v2173 ≤ 256 → 0 ≤ (-1) * v2170 + v2173 + 0 → Wp B (d + 2) 207 5 [some (R 176), some (R c1), some (I p2), some (I v2170), some (I v2173), none, none, none, none, none] [] M2176 Q := by
    refine lp_ind ?_
    intro k2432 ih2432 M2176 v2170 v2173 hk2432 hP2177 hF2178 h2171 h2172 h2174 h2175 h2179
    refine wk_il4 r207_5 (wk_al1 r207_7 (wk_getfb r207_8 (fdC_1 hC1) (bC_1 hP2177 hC1) ?_))
    intro v2180 h2182 h2183 e2181
    refine wk_icge r207_11 ⟨by omega, by omega⟩ ⟨by omega, by omega⟩ ?_ ?_
    · intro h2184
      refine wk_al0 r207_255 (wk_getfr r207_256 fd_176_4 (br_176_4 hP2177) (wk_c1 r207_259 (wk_laldb r207_260 ar_178 (by decide) (fun q0 q1 => ba_178 hP2177 q0 q1) (by decide) ?_)))
      intro n2185 h2187 h2188 e2186
      subst hQ; exact wk_lret r207_261 (⟨rfl, _, rfl, hP2177, hF2178, by omega⟩)
    · intro h2189
      refine wk_il3 r207_14 (wk_c1 r207_15 (wk_iadd r207_16 (wk_c2 r207_17 ?_)))
      refine wk_icge r207_19 ⟨by omega, by omega⟩ (by decide) ?_ ?_
      · intro h2190
        refine wk_al0 r207_255 (wk_getfr r207_256 fd_176_4 (br_176_4 hP2177) (wk_c1 r207_259 (wk_laldb r207_260 ar_178 (by decide) (fun q0 q1 => ba_178 hP2177 q0 q1) (by decide) ?_)))
        intro n2191 h2193 h2194 e2192
        subst hQ; exact wk_lret r207_261 (⟨rfl, _, rfl, hP2177, hF2178, by omega⟩)
      · intro h2195
        refine wk_al1 r207_22 (wk_getfr r207_23 (fdC_0 hC1) (bC_0 hP2177 hC1) (wk_il4 r207_26 (wk_ialdb r207_28 (arC hC1) ⟨by omega, by omega⟩ (fun q0 q1 => baC hP2177 hC1 q0 q1) ?_)))
        intro v2196 h2198 h2199 e2197
        have h2200 := exC hP2177 hC1 (i := v2173) (by omega) (by omega); rw [e2197] at h2200; unfold stepok at h2200
        refine wk_c1 r207_29 (wk_ishrc r207_30 ⟨by omega, by omega⟩ (by decide) pwl_3 (wk_is5 r207_31 rfl (wk_al1 r207_33 (wk_getfr r207_34 (fdC_0 hC1) (bC_0 hP2177 hC1) (wk_il4 r207_37 (wk_iald r207_39 (arC hC1) ⟨by omega, by omega⟩ e2197 (wk_c2 r207_40 (wk_iandc 3 8 r207_42 ⟨rfl, by decide⟩ rfl (wk_is6 r207_43 rfl (wk_il6 r207_45 (wk_c1 r207_47 ?_)))))))))))
        refine wk_iceq r207_48 ⟨by omega, by omega⟩ (by decide) ?_ ?_
        · intro h2203
          refine wk_c1 r207_57 (wk_goto r207_58 (wk_is7 r207_62 rfl (wk_il6 r207_64 ?_)))
          refine wk_ifeq r207_66 ⟨by omega, by omega⟩ ?_ ?_
          · intro h2204
            exfalso
            omega
          · intro h2205
            refine wk_il6 r207_69 (wk_c1 r207_71 ?_)
            refine wk_iceq r207_72 ⟨by omega, by omega⟩ (by decide) ?_ ?_
            · intro h2206
              exfalso
              omega
            · intro h2207
              refine wk_il6 r207_75 (wk_c2 r207_77 ?_)
              refine wk_icne r207_79 ⟨by omega, by omega⟩ (by decide) ?_ ?_
              · intro h2208
                refine wk_il7 r207_134 ?_
                refine wk_ifeq r207_136 (by decide) ?_ ?_
                · intro h2209
                  refine wk_il7 r207_197 ?_
                  refine wk_ifne r207_199 (by decide) ?_ ?_
                  · intro h2210
                    refine wk_inc4 r207_249 rfl (wk_goto r207_252 ?_)
                    exact wp_fg (le_s (le_s (le_s (le_s (le_s (le_n (le_n (le_n (le_s (le_s le_0)))))))))) (ih2432 (256 - (v2173 + 1)).toNat (by omega) M2176 v2170 (v2173 + 1) rfl hP2177 hF2178 (by omega) (by omega) (by omega) (by omega) (by omega))
                  · intro h2211
                    refine wk_il3 r207_202 ?_
                    refine wk_ifle r207_203 ⟨by omega, by omega⟩ ?_ ?_
                    · intro h2212
                      refine wk_inc4 r207_249 rfl (wk_goto r207_252 ?_)
                      exact wp_fg (le_s (le_s (le_s (le_s (le_s (le_n (le_n (le_n (le_s (le_s le_0)))))))))) (ih2432 (256 - (v2173 + 1)).toNat (by omega) M2176 v2170 (v2173 + 1) rfl hP2177 hF2178 (by omega) (by omega) (by omega) (by omega) (by omega))
                    · intro h2213
                      refine wk_al0 r207_206 (wk_getfr r207_207 fd_176_4 (br_176_4 hP2177) (wk_il3 r207_210 (wk_c1 r207_211 (wk_isub r207_212 (wk_laldb r207_213 ar_178 ⟨by omega, by omega⟩ (fun q0 q1 => ba_178 hP2177 q0 q1) (by decide) ?_)))))
                      intro n2214 h2216 h2217 e2215
                      refine wk_ls8 r207_214 rfl (wk_al0 r207_216 (wk_getfr r207_217 fd_176_4 (br_176_4 hP2177) (wk_il3 r207_220 (wk_c1 r207_221 (wk_isub r207_222 (wk_il6 r207_223 (wk_c1 r207_225 ?_)))))))
                      refine wk_icne r207_226 ⟨by omega, by omega⟩ (by decide) ?_ ?_
                      · intro h2218
                        have h2219 : (v2196 / 8) ≤ 6 := by omega
                        refine wk_al0 r207_238 (wk_il5 r207_239 (wk_c1 r207_241 (wk_ll8 r207_242 (wk_il2 r207_244 (wk_cv5 r207_245 kc_176_189 rfl (m189_176v4 _ M2176 (v2196 / 8) (-1) n2214 p2 hP2177 (by omega) (by omega) (by decide) (by decide) (by omega) (by omega) (by omega)) (cqL ?_))))))
                        rintro n2224 M2220 ⟨hP2221, hQ2222, h2225⟩
                        obtain rfl := Fr.same hQ2222
                        refine wk_last r207_248 ar_178 ⟨by omega, by omega⟩ (wk_nw (ga_178 _) rfl hP2177 hF2178 (ua_178 ⟨by omega, by omega⟩) ?_)
                        intro M2226 hP2227 hF2228 e2229
                        refine wk_inc4 r207_249 rfl (wk_goto r207_252 ?_)
                        exact wp_fg (le_s (le_s (le_s (le_s (le_s (le_n (le_n (le_n (le_n (le_s le_0)))))))))) (ih2432 (256 - (v2173 + 1)).toNat (by omega) M2226 v2170 (v2173 + 1) rfl hP2227 hF2228 (by omega) (by omega) (by omega) (by omega) (by omega))
                      · intro h2230
                        exfalso
                        omega
                · intro h2231
                  refine wk_il3 r207_139 (wk_c1 r207_140 ?_)
                  refine wk_icle r207_141 ⟨by omega, by omega⟩ (by decide) ?_ ?_
                  · intro h2232
                    refine wk_il7 r207_197 ?_
                    refine wk_ifne r207_199 (by decide) ?_ ?_
                    · intro h2233
                      refine wk_inc4 r207_249 rfl (wk_goto r207_252 ?_)
                      exact wp_fg (le_s (le_s (le_s (le_s (le_s (le_n (le_n (le_n (le_s (le_s le_0)))))))))) (ih2432 (256 - (v2173 + 1)).toNat (by omega) M2176 v2170 (v2173 + 1) rfl hP2177 hF2178 (by omega) (by omega) (by omega) (by omega) (by omega))
                    · intro h2234
                      refine wk_il3 r207_202 ?_
                      refine wk_ifle r207_203 ⟨by omega, by omega⟩ ?_ ?_
                      · intro h2235
                        refine wk_inc4 r207_249 rfl (wk_goto r207_252 ?_)
                        exact wp_fg (le_s (le_s (le_s (le_s (le_s (le_n (le_n (le_n (le_s (le_s le_0)))))))))) (ih2432 (256 - (v2173 + 1)).toNat (by omega) M2176 v2170 (v2173 + 1) rfl hP2177 hF2178 (by omega) (by omega) (by omega) (by omega) (by omega))
                      · intro h2236
                        refine wk_al0 r207_206 (wk_getfr r207_207 fd_176_4 (br_176_4 hP2177) (wk_il3 r207_210 (wk_c1 r207_211 (wk_isub r207_212 (wk_laldb r207_213 ar_178 ⟨by omega, by omega⟩ (fun q0 q1 => ba_178 hP2177 q0 q1) (by decide) ?_)))))
                        intro n2237 h2239 h2240 e2238
                        refine wk_ls8 r207_214 rfl (wk_al0 r207_216 (wk_getfr r207_217 fd_176_4 (br_176_4 hP2177) (wk_il3 r207_220 (wk_c1 r207_221 (wk_isub r207_222 (wk_il6 r207_223 (wk_c1 r207_225 ?_)))))))
                        refine wk_icne r207_226 ⟨by omega, by omega⟩ (by decide) ?_ ?_
                        · intro h2241
                          have h2242 : (v2196 / 8) ≤ 6 := by omega
                          refine wk_al0 r207_238 (wk_il5 r207_239 (wk_c1 r207_241 (wk_ll8 r207_242 (wk_il2 r207_244 (wk_cv5 r207_245 kc_176_189 rfl (m189_176v4 _ M2176 (v2196 / 8) (-1) n2237 p2 hP2177 (by omega) (by omega) (by decide) (by decide) (by omega) (by omega) (by omega)) (cqL ?_))))))
                          rintro n2247 M2243 ⟨hP2244, hQ2245, h2248⟩
                          obtain rfl := Fr.same hQ2245
                          refine wk_last r207_248 ar_178 ⟨by omega, by omega⟩ (wk_nw (ga_178 _) rfl hP2177 hF2178 (ua_178 ⟨by omega, by omega⟩) ?_)
                          intro M2249 hP2250 hF2251 e2252
                          refine wk_inc4 r207_249 rfl (wk_goto r207_252 ?_)
                          exact wp_fg (le_s (le_s (le_s (le_s (le_s (le_n (le_n (le_n (le_n (le_s le_0)))))))))) (ih2432 (256 - (v2173 + 1)).toNat (by omega) M2249 v2170 (v2173 + 1) rfl hP2250 hF2251 (by omega) (by omega) (by omega) (by omega) (by omega))
                        · intro h2253
                          exfalso
                          omega
                  · intro h2254
                    refine wk_inc3 r207_144 rfl (wk_al0 r207_147 (wk_getfr r207_148 fd_176_4 (br_176_4 hP2177) (wk_il3 r207_151 (wk_laldb r207_152 ar_178 ⟨by omega, by omega⟩ (fun q0 q1 => ba_178 hP2177 q0 q1) (by decide) ?_))))
                    intro n2255 h2257 h2258 e2256
                    refine wk_ls8 r207_153 rfl (wk_al0 r207_155 (wk_getfr r207_156 fd_176_4 (br_176_4 hP2177) (wk_il3 r207_159 (wk_c1 r207_160 (wk_isub r207_161 (wk_il6 r207_162 (wk_c1 r207_164 ?_)))))))
                    refine wk_icne r207_165 ⟨by omega, by omega⟩ (by decide) ?_ ?_
                    · intro h2259
                      exfalso
                      omega
                    · intro h2260
                      refine wk_al0 r207_168 (wk_getfr r207_169 fd_176_4 (br_176_4 hP2177) (wk_il3 r207_172 (wk_c1 r207_173 (wk_isub r207_174 (wk_laldb r207_175 ar_178 ⟨by omega, by omega⟩ (fun q0 q1 => ba_178 hP2177 q0 q1) (by decide) ?_)))))
                      intro n2261 h2263 h2264 e2262
                      refine wk_ll8 r207_176 (wk_land r207_178 ?_)
                      intro n2265 h2266 h2267 h2268 h2269
                      refine wk_goto r207_179 (wk_last r207_193 ar_178 ⟨by omega, by omega⟩ (wk_nw (ga_178 _) rfl hP2177 hF2178 (ua_178 ⟨by omega, by omega⟩) ?_))
                      intro M2270 hP2271 hF2272 e2273
                      refine wk_goto r207_194 (wk_inc4 r207_249 rfl (wk_goto r207_252 ?_))
                      exact wp_fg (le_s (le_s (le_s (le_s (le_s (le_n (le_n (le_n (le_n (le_s le_0)))))))))) (ih2432 (256 - (v2173 + 1)).toNat (by omega) M2270 (v2170 + (-1)) (v2173 + 1) rfl hP2271 hF2272 (by omega) (by omega) (by omega) (by omega) (by omega))
              · intro h2274
                exfalso
                omega
        · intro h2275
          refine wk_il6 r207_51 (wk_c1 r207_53 ?_)
          refine wk_icne r207_54 ⟨by omega, by omega⟩ (by decide) ?_ ?_
          · intro h2276
            refine wk_c1 r207_61 (wk_is7 r207_62 rfl (wk_il6 r207_64 ?_))
            refine wk_ifeq r207_66 ⟨by omega, by omega⟩ ?_ ?_
            · intro h2277
              refine wk_al0 r207_82 (wk_getfr r207_83 fd_176_4 (br_176_4 hP2177) (wk_il3 r207_86 (wk_il6 r207_87 ?_)))
              refine wk_ifne r207_89 ⟨by omega, by omega⟩ ?_ ?_
              · intro h2278
                exfalso
                omega
              · intro h2279
                refine wk_al0 r207_92 (wk_getfr r207_93 fd_176_0 (br_176_0 hP2177) (wk_il5 r207_96 ?_))
                rcases Int.lt_or_le (v2196 / 8) 118 with h2280 | h2280
                · refine wk_raldb r207_98 ar_182 ⟨by omega, by omega⟩ (fun q0 q1 => ba_182 hP2177 q0 q1) (wk_il2 r207_99 (wk_laldb r207_100 (arF_183 (by omega) (by omega)) ⟨by omega, by omega⟩ (fun q0 q1 => baF_183 hP2177 (by omega) (by omega) q0 q1) (by decide) ?_))
                  intro n2281 h2283 h2284 e2282
                  refine wk_goto r207_101 (wk_last r207_127 ar_178 ⟨by omega, by omega⟩ (wk_nw (ga_178 _) rfl hP2177 hF2178 (ua_178 ⟨by omega, by omega⟩) ?_))
                  intro M2285 hP2286 hF2287 e2288
                  refine wk_inc3 r207_128 rfl (wk_goto r207_131 (wk_inc4 r207_249 rfl (wk_goto r207_252 ?_)))
                  exact wp_fg (le_s (le_s (le_s (le_s (le_s (le_n (le_n (le_n (le_s (le_s le_0)))))))))) (ih2432 (256 - (v2173 + 1)).toNat (by omega) M2285 (v2170 + 1) (v2173 + 1) rfl hP2286 hF2287 (by omega) (by omega) (by omega) (by omega) (by omega))
                · refine wk_raldb r207_98 ar_182 ⟨by omega, by omega⟩ (fun q0 q1 => ba_182 hP2177 q0 q1) (wk_il2 r207_99 (wk_laldb r207_100 (arF_301 (by omega) (by omega)) ⟨by omega, by omega⟩ (fun q0 q1 => ⟨(b4_301 hP2177 (by omega) (by omega) q0 q1).1, (b4_301 hP2177 (by omega) (by omega) q0 q1).2.1⟩) (by decide) ?_))
                  intro n2289 h2291 h2292 e2290
                  have h2293 : p2 = 4 → n2289 ≤ 17592186044415 := by have := b4_301 hP2177 (a := (183 + (v2196 / 8))) (i := p2) (by omega) (by omega) (by omega) (by omega); omega
                  refine wk_goto r207_101 (wk_last r207_127 ar_178 ⟨by omega, by omega⟩ (wk_nw (ga_178 _) rfl hP2177 hF2178 (ua_178 ⟨by omega, by omega⟩) ?_))
                  intro M2294 hP2295 hF2296 e2297
                  refine wk_inc3 r207_128 rfl (wk_goto r207_131 (wk_inc4 r207_249 rfl (wk_goto r207_252 ?_)))
                  exact wp_fg (le_s (le_s (le_s (le_s (le_s (le_n (le_n (le_n (le_s (le_s le_0)))))))))) (ih2432 (256 - (v2173 + 1)).toNat (by omega) M2294 (v2170 + 1) (v2173 + 1) rfl hP2295 hF2296 (by omega) (by omega) (by omega) (by omega) (by omega))
            · intro h2298
              refine wk_il6 r207_69 (wk_c1 r207_71 ?_)
              refine wk_iceq r207_72 ⟨by omega, by omega⟩ (by decide) ?_ ?_
              · intro h2299
                refine wk_al0 r207_82 (wk_getfr r207_83 fd_176_4 (br_176_4 hP2177) (wk_il3 r207_86 (wk_il6 r207_87 ?_)))
                refine wk_ifne r207_89 ⟨by omega, by omega⟩ ?_ ?_
                · intro h2300
                  refine wk_il6 r207_104 (wk_c1 r207_106 ?_)
                  refine wk_icne r207_107 ⟨by omega, by omega⟩ (by decide) ?_ ?_
                  · intro h2301
                    exfalso
                    omega
                  · intro h2302
                    refine wk_al0 r207_110 (wk_il5 r207_111 (wk_il2 r207_113 (wk_cv3 r207_114 kc_176_185 rfl (m185_176v4 _ M2176 (v2196 / 8) p2 hP2177 (by omega) (by omega) (by omega) (by omega) (by first | assumption | omega | (unfold stepok; omega))) (cqL ?_))))
                    rintro n2307 M2303 ⟨hP2304, hQ2305, h2308⟩
                    obtain rfl := Fr.same hQ2305
                    refine wk_goto r207_117 (wk_last r207_127 ar_178 ⟨by omega, by omega⟩ (wk_nw (ga_178 _) rfl hP2177 hF2178 (ua_178 ⟨by omega, by omega⟩) ?_))
                    intro M2309 hP2310 hF2311 e2312
                    refine wk_inc3 r207_128 rfl (wk_goto r207_131 (wk_inc4 r207_249 rfl (wk_goto r207_252 ?_)))
                    exact wp_fg (le_s (le_s (le_s (le_s (le_s (le_n (le_n (le_n (le_s (le_s le_0)))))))))) (ih2432 (256 - (v2173 + 1)).toNat (by omega) M2309 (v2170 + 1) (v2173 + 1) rfl hP2310 hF2311 (by omega) (by omega) (by omega) (by omega) (by omega))
                · intro h2313
                  exfalso
                  omega
              · intro h2314
                refine wk_il6 r207_75 (wk_c2 r207_77 ?_)
                refine wk_icne r207_79 ⟨by omega, by omega⟩ (by decide) ?_ ?_
                · intro h2315
                  refine wk_il7 r207_134 ?_
                  refine wk_ifeq r207_136 (by decide) ?_ ?_
                  · intro h2316
                    refine wk_il7 r207_197 ?_
                    refine wk_ifne r207_199 (by decide) ?_ ?_
                    · intro h2317
                      exfalso
                      omega
                    · intro h2318
                      refine wk_il3 r207_202 ?_
                      refine wk_ifle r207_203 ⟨by omega, by omega⟩ ?_ ?_
                      · intro h2319
                        refine wk_inc4 r207_249 rfl (wk_goto r207_252 ?_)
                        exact wp_fg (le_s (le_s (le_s (le_s (le_s (le_n (le_n (le_n (le_s (le_s le_0)))))))))) (ih2432 (256 - (v2173 + 1)).toNat (by omega) M2176 v2170 (v2173 + 1) rfl hP2177 hF2178 (by omega) (by omega) (by omega) (by omega) (by omega))
                      · intro h2320
                        refine wk_al0 r207_206 (wk_getfr r207_207 fd_176_4 (br_176_4 hP2177) (wk_il3 r207_210 (wk_c1 r207_211 (wk_isub r207_212 (wk_laldb r207_213 ar_178 ⟨by omega, by omega⟩ (fun q0 q1 => ba_178 hP2177 q0 q1) (by decide) ?_)))))
                        intro n2321 h2323 h2324 e2322
                        refine wk_ls8 r207_214 rfl (wk_al0 r207_216 (wk_getfr r207_217 fd_176_4 (br_176_4 hP2177) (wk_il3 r207_220 (wk_c1 r207_221 (wk_isub r207_222 (wk_il6 r207_223 (wk_c1 r207_225 ?_)))))))
                        refine wk_icne r207_226 ⟨by omega, by omega⟩ (by decide) ?_ ?_
                        · intro h2325
                          have h2326 : (v2196 / 8) ≤ 6 := by omega
                          refine wk_al0 r207_238 (wk_il5 r207_239 (wk_c1 r207_241 (wk_ll8 r207_242 (wk_il2 r207_244 (wk_cv5 r207_245 kc_176_189 rfl (m189_176v4 _ M2176 (v2196 / 8) (-1) n2321 p2 hP2177 (by omega) (by omega) (by decide) (by decide) (by omega) (by omega) (by omega)) (cqL ?_))))))
                          rintro n2331 M2327 ⟨hP2328, hQ2329, h2332⟩
                          obtain rfl := Fr.same hQ2329
                          refine wk_last r207_248 ar_178 ⟨by omega, by omega⟩ (wk_nw (ga_178 _) rfl hP2177 hF2178 (ua_178 ⟨by omega, by omega⟩) ?_)
                          intro M2333 hP2334 hF2335 e2336
                          refine wk_inc4 r207_249 rfl (wk_goto r207_252 ?_)
                          exact wp_fg (le_s (le_s (le_s (le_s (le_s (le_n (le_n (le_n (le_n (le_s le_0)))))))))) (ih2432 (256 - (v2173 + 1)).toNat (by omega) M2333 v2170 (v2173 + 1) rfl hP2334 hF2335 (by omega) (by omega) (by omega) (by omega) (by omega))
                        · intro h2337
                          refine wk_ll8 r207_229 (wk_c7 r207_231 (wk_lxor r207_234 ?_))
                          intro n2338 h2339 h2340
                          refine wk_goto r207_235 (wk_last r207_248 ar_178 ⟨by omega, by omega⟩ (wk_nw (ga_178 _) rfl hP2177 hF2178 (ua_178 ⟨by omega, by omega⟩) ?_))
                          intro M2341 hP2342 hF2343 e2344
                          refine wk_inc4 r207_249 rfl (wk_goto r207_252 ?_)
                          exact wp_fg (le_s (le_s (le_s (le_s (le_s (le_n (le_n (le_n (le_n (le_s le_0)))))))))) (ih2432 (256 - (v2173 + 1)).toNat (by omega) M2341 v2170 (v2173 + 1) rfl hP2342 hF2343 (by omega) (by omega) (by omega) (by omega) (by omega))
                  · intro h2345
                    exfalso
                    omega
                · intro h2346
                  refine wk_al0 r207_82 (wk_getfr r207_83 fd_176_4 (br_176_4 hP2177) (wk_il3 r207_86 (wk_il6 r207_87 ?_)))
                  refine wk_ifne r207_89 ⟨by omega, by omega⟩ ?_ ?_
                  · intro h2347
                    refine wk_il6 r207_104 (wk_c1 r207_106 ?_)
                    refine wk_icne r207_107 ⟨by omega, by omega⟩ (by decide) ?_ ?_
                    · intro h2348
                      refine wk_al0 r207_120 (wk_il5 r207_121 (wk_il2 r207_123 (wk_cv3 r207_124 kc_176_198 rfl (m198_176v4 _ M2176 (v2196 / 8) p2 hP2177 (by omega) (by omega) (by omega) (by omega)) (cqL ?_))))
                      rintro n2353 M2349 ⟨hP2350, hQ2351, h2354⟩
                      obtain rfl := Fr.same hQ2351
                      refine wk_last r207_127 ar_178 ⟨by omega, by omega⟩ (wk_nw (ga_178 _) rfl hP2177 hF2178 (ua_178 ⟨by omega, by omega⟩) ?_)
                      intro M2355 hP2356 hF2357 e2358
                      refine wk_inc3 r207_128 rfl (wk_goto r207_131 (wk_inc4 r207_249 rfl (wk_goto r207_252 ?_)))
                      exact wp_fg (le_s (le_s (le_s (le_s (le_s (le_n (le_n (le_n (le_s (le_s le_0)))))))))) (ih2432 (256 - (v2173 + 1)).toNat (by omega) M2355 (v2170 + 1) (v2173 + 1) rfl hP2356 hF2357 (by omega) (by omega) (by omega) (by omega) (by omega))
                    · intro h2359
                      exfalso
                      omega
                  · intro h2360
                    exfalso
                    omega
          · intro h2361
            refine wk_c1 r207_57 (wk_goto r207_58 (wk_is7 r207_62 rfl (wk_il6 r207_64 ?_)))
            refine wk_ifeq r207_66 ⟨by omega, by omega⟩ ?_ ?_
            · intro h2362
              exfalso
              omega
            · intro h2363
              refine wk_il6 r207_69 (wk_c1 r207_71 ?_)
              refine wk_iceq r207_72 ⟨by omega, by omega⟩ (by decide) ?_ ?_
              · intro h2364
                exfalso
                omega
              · intro h2365
                refine wk_il6 r207_75 (wk_c2 r207_77 ?_)
                refine wk_icne r207_79 ⟨by omega, by omega⟩ (by decide) ?_ ?_
                · intro h2366
                  refine wk_il7 r207_134 ?_
                  refine wk_ifeq r207_136 (by decide) ?_ ?_
                  · intro h2367
                    refine wk_il7 r207_197 ?_
                    refine wk_ifne r207_199 (by decide) ?_ ?_
                    · intro h2368
                      refine wk_inc4 r207_249 rfl (wk_goto r207_252 ?_)
                      exact wp_fg (le_s (le_s (le_s (le_s (le_s (le_n (le_n (le_n (le_s (le_s le_0)))))))))) (ih2432 (256 - (v2173 + 1)).toNat (by omega) M2176 v2170 (v2173 + 1) rfl hP2177 hF2178 (by omega) (by omega) (by omega) (by omega) (by omega))
                    · intro h2369
                      refine wk_il3 r207_202 ?_
                      refine wk_ifle r207_203 ⟨by omega, by omega⟩ ?_ ?_
                      · intro h2370
                        refine wk_inc4 r207_249 rfl (wk_goto r207_252 ?_)
                        exact wp_fg (le_s (le_s (le_s (le_s (le_s (le_n (le_n (le_n (le_s (le_s le_0)))))))))) (ih2432 (256 - (v2173 + 1)).toNat (by omega) M2176 v2170 (v2173 + 1) rfl hP2177 hF2178 (by omega) (by omega) (by omega) (by omega) (by omega))
                      · intro h2371
                        refine wk_al0 r207_206 (wk_getfr r207_207 fd_176_4 (br_176_4 hP2177) (wk_il3 r207_210 (wk_c1 r207_211 (wk_isub r207_212 (wk_laldb r207_213 ar_178 ⟨by omega, by omega⟩ (fun q0 q1 => ba_178 hP2177 q0 q1) (by decide) ?_)))))
                        intro n2372 h2374 h2375 e2373
                        refine wk_ls8 r207_214 rfl (wk_al0 r207_216 (wk_getfr r207_217 fd_176_4 (br_176_4 hP2177) (wk_il3 r207_220 (wk_c1 r207_221 (wk_isub r207_222 (wk_il6 r207_223 (wk_c1 r207_225 ?_)))))))
                        refine wk_icne r207_226 ⟨by omega, by omega⟩ (by decide) ?_ ?_
                        · intro h2376
                          have h2377 : (v2196 / 8) ≤ 6 := by omega
                          refine wk_al0 r207_238 (wk_il5 r207_239 (wk_c1 r207_241 (wk_ll8 r207_242 (wk_il2 r207_244 (wk_cv5 r207_245 kc_176_189 rfl (m189_176v4 _ M2176 (v2196 / 8) (-1) n2372 p2 hP2177 (by omega) (by omega) (by decide) (by decide) (by omega) (by omega) (by omega)) (cqL ?_))))))
                          rintro n2382 M2378 ⟨hP2379, hQ2380, h2383⟩
                          obtain rfl := Fr.same hQ2380
                          refine wk_last r207_248 ar_178 ⟨by omega, by omega⟩ (wk_nw (ga_178 _) rfl hP2177 hF2178 (ua_178 ⟨by omega, by omega⟩) ?_)
                          intro M2384 hP2385 hF2386 e2387
                          refine wk_inc4 r207_249 rfl (wk_goto r207_252 ?_)
                          exact wp_fg (le_s (le_s (le_s (le_s (le_s (le_n (le_n (le_n (le_n (le_s le_0)))))))))) (ih2432 (256 - (v2173 + 1)).toNat (by omega) M2384 v2170 (v2173 + 1) rfl hP2385 hF2386 (by omega) (by omega) (by omega) (by omega) (by omega))
                        · intro h2388
                          exfalso
                          omega
                  · intro h2389
                    refine wk_il3 r207_139 (wk_c1 r207_140 ?_)
                    refine wk_icle r207_141 ⟨by omega, by omega⟩ (by decide) ?_ ?_
                    · intro h2390
                      refine wk_il7 r207_197 ?_
                      refine wk_ifne r207_199 (by decide) ?_ ?_
                      · intro h2391
                        refine wk_inc4 r207_249 rfl (wk_goto r207_252 ?_)
                        exact wp_fg (le_s (le_s (le_s (le_s (le_s (le_n (le_n (le_n (le_s (le_s le_0)))))))))) (ih2432 (256 - (v2173 + 1)).toNat (by omega) M2176 v2170 (v2173 + 1) rfl hP2177 hF2178 (by omega) (by omega) (by omega) (by omega) (by omega))
                      · intro h2392
                        refine wk_il3 r207_202 ?_
                        refine wk_ifle r207_203 ⟨by omega, by omega⟩ ?_ ?_
                        · intro h2393
                          refine wk_inc4 r207_249 rfl (wk_goto r207_252 ?_)
                          exact wp_fg (le_s (le_s (le_s (le_s (le_s (le_n (le_n (le_n (le_s (le_s le_0)))))))))) (ih2432 (256 - (v2173 + 1)).toNat (by omega) M2176 v2170 (v2173 + 1) rfl hP2177 hF2178 (by omega) (by omega) (by omega) (by omega) (by omega))
                        · intro h2394
                          refine wk_al0 r207_206 (wk_getfr r207_207 fd_176_4 (br_176_4 hP2177) (wk_il3 r207_210 (wk_c1 r207_211 (wk_isub r207_212 (wk_laldb r207_213 ar_178 ⟨by omega, by omega⟩ (fun q0 q1 => ba_178 hP2177 q0 q1) (by decide) ?_)))))
                          intro n2395 h2397 h2398 e2396
                          refine wk_ls8 r207_214 rfl (wk_al0 r207_216 (wk_getfr r207_217 fd_176_4 (br_176_4 hP2177) (wk_il3 r207_220 (wk_c1 r207_221 (wk_isub r207_222 (wk_il6 r207_223 (wk_c1 r207_225 ?_)))))))
                          refine wk_icne r207_226 ⟨by omega, by omega⟩ (by decide) ?_ ?_
                          · intro h2399
                            have h2400 : (v2196 / 8) ≤ 6 := by omega
                            refine wk_al0 r207_238 (wk_il5 r207_239 (wk_c1 r207_241 (wk_ll8 r207_242 (wk_il2 r207_244 (wk_cv5 r207_245 kc_176_189 rfl (m189_176v4 _ M2176 (v2196 / 8) (-1) n2395 p2 hP2177 (by omega) (by omega) (by decide) (by decide) (by omega) (by omega) (by omega)) (cqL ?_))))))
                            rintro n2405 M2401 ⟨hP2402, hQ2403, h2406⟩
                            obtain rfl := Fr.same hQ2403
                            refine wk_last r207_248 ar_178 ⟨by omega, by omega⟩ (wk_nw (ga_178 _) rfl hP2177 hF2178 (ua_178 ⟨by omega, by omega⟩) ?_)
                            intro M2407 hP2408 hF2409 e2410
                            refine wk_inc4 r207_249 rfl (wk_goto r207_252 ?_)
                            exact wp_fg (le_s (le_s (le_s (le_s (le_s (le_n (le_n (le_n (le_n (le_s le_0)))))))))) (ih2432 (256 - (v2173 + 1)).toNat (by omega) M2407 v2170 (v2173 + 1) rfl hP2408 hF2409 (by omega) (by omega) (by omega) (by omega) (by omega))
                          · intro h2411
                            exfalso
                            omega
                    · intro h2412
                      refine wk_inc3 r207_144 rfl (wk_al0 r207_147 (wk_getfr r207_148 fd_176_4 (br_176_4 hP2177) (wk_il3 r207_151 (wk_laldb r207_152 ar_178 ⟨by omega, by omega⟩ (fun q0 q1 => ba_178 hP2177 q0 q1) (by decide) ?_))))
                      intro n2413 h2415 h2416 e2414
                      refine wk_ls8 r207_153 rfl (wk_al0 r207_155 (wk_getfr r207_156 fd_176_4 (br_176_4 hP2177) (wk_il3 r207_159 (wk_c1 r207_160 (wk_isub r207_161 (wk_il6 r207_162 (wk_c1 r207_164 ?_)))))))
                      refine wk_icne r207_165 ⟨by omega, by omega⟩ (by decide) ?_ ?_
                      · intro h2417
                        refine wk_al0 r207_182 (wk_getfr r207_183 fd_176_4 (br_176_4 hP2177) (wk_il3 r207_186 (wk_c1 r207_187 (wk_isub r207_188 (wk_laldb r207_189 ar_178 ⟨by omega, by omega⟩ (fun q0 q1 => ba_178 hP2177 q0 q1) (by decide) ?_)))))
                        intro n2418 h2420 h2421 e2419
                        refine wk_ll8 r207_190 (wk_lorb r207_192 ?_)
                        intro n2422 h2423 h2424 h2425
                        refine wk_last r207_193 ar_178 ⟨by omega, by omega⟩ (wk_nw (ga_178 _) rfl hP2177 hF2178 (ua_178 ⟨by omega, by omega⟩) ?_)
                        intro M2426 hP2427 hF2428 e2429
                        refine wk_goto r207_194 (wk_inc4 r207_249 rfl (wk_goto r207_252 ?_))
                        exact wp_fg (le_s (le_s (le_s (le_s (le_s (le_n (le_n (le_n (le_n (le_s le_0)))))))))) (ih2432 (256 - (v2173 + 1)).toNat (by omega) M2426 (v2170 + (-1)) (v2173 + 1) rfl hP2427 hF2428 (by omega) (by omega) (by omega) (by omega) (by omega))
                      · intro h2430
                        exfalso
                        omega
                · intro h2431
                  exfalso
                  omega
  exact wp_fg (le_s (le_s (le_s (le_s (le_s (le_s (le_s (le_s (le_s (le_s le_0)))))))))) (c5_2432 _ M0 0 0 rfl hP0 hF0 (by omega) (by omega) (by omega) (by omega) (by omega))
def fm_m196_176_f183 : Nat := 21350724682295211208517400905753034752
/-- IslandHall$Realm.judge -/
theorem m196_176_f183 {B : eB} (d : Nat) (M0 : Mm) (c1 : Int) (a2 : Int) (hP0 : Pw M0) (hC1 : isC c1) (ha2 : 183 ≤ a2) (hb2 : a2 ≤ 300) : Ct B (d + 4) 196 [R 176, R c1, R a2] M0 (qV fun M => Pw M ∧ Fr fm_m196_176_f183 M0 M) := by
  refine ct_of (d := d + 3) (k := 1) (L := [some (R 176), some (R c1), some (R a2), none]) rfl rfl rfl ?_
  have hF0 := Fr.rf fm_m196_176_f183 M0
  generalize hQ : (qV fun M => Pw M ∧ Fr fm_m196_176_f183 M0 M) = Q
  refine wk_c1 r196_0 (wk_is3 r196_1 rfl ?_)
  have c2_155 : ∀ (k155 : Nat) (M136 : Mm) (v133 : Int), (5 - v133).toNat = k155 → Pw M136 → Fr fm_m196_176_f183 M0 M136 → 0 ≤ v133 → v133 ≤ 5 → Wp B (d + 3) 196 2 [some (R 176), some (R c1), some (R a2), some (I v133)] [] M136 Q := by
    refine lp_ind ?_
    intro k155 ih155 M136 v133 hk155 hP137 hF138 h134 h135
    refine wk_il3 r196_2 (wk_al0 r196_3 (wk_getfb r196_4 fd_176_10 (bf_176_10 hP137) ?_))
    intro v139 h141 h142 e140
    refine wk_icge r196_7 ⟨by omega, by omega⟩ ⟨by omega, by omega⟩ ?_ ?_
    · intro h143
      subst hQ; exact wk_ret r196_25 (⟨rfl, hP137, hF138⟩)
    · intro h144
      refine wk_al2 r196_10 (wk_il3 r196_11 (wk_al0 r196_12 (wk_al1 r196_13 (wk_il3 r196_14 (wk_cv3 r196_15 kc_176_207 rfl (m207_176v4 _ M136 c1 v133 hP137 hC1 (by omega) (by omega)) (cqL ?_))))))
      rintro n149 M145 ⟨hP146, hQ147, h150⟩
      have hF148 : Fr fm_m196_176_f183 M0 M145 := hF138.tr hQ147 rfl
      refine wk_last r196_18 (arF_183 (by omega) (by omega)) ⟨by omega, by omega⟩ (wk_nw (gr_183 (by omega) (by omega) _) rfl hP146 hF148 (uaF_183 (by omega) (by omega) ⟨by omega, by omega⟩) ?_)
      intro M151 hP152 hF153 e154
      refine wk_inc3 r196_19 rfl (wk_goto r196_22 ?_)
      exact wp_fg (le_s (le_s (le_s (le_s le_0)))) (ih155 (5 - (v133 + 1)).toNat (by omega) M151 (v133 + 1) rfl hP152 hF153 (by omega) (by omega))
  exact wp_fg (le_s (le_s (le_s (le_s le_0)))) (c2_155 _ M0 0 rfl hP0 hF0 (by omega) (by omega))
def fm_m200_176 : Nat := 41538374868278621028243970633760768
/-- IslandHall$Realm.pass -/
theorem m200_176 {B : eB} (d : Nat) (M0 : Mm) (p1 : Int) (hP0 : Pw M0) (l1 : 0 ≤ p1) (u1 : p1 ≤ 6) : Ct B (d + 1) 200 [R 176, I p1] M0 (qV fun M => Pw M ∧ Fr fm_m200_176 M0 M) := by
  refine ct_of (d := d + 0) (k := 0) (L := [some (R 176), some (I p1)]) rfl rfl rfl ?_
  have hF0 := Fr.rf fm_m200_176 M0
  generalize hQ : (qV fun M => Pw M ∧ Fr fm_m200_176 M0 M) = Q
  refine wk_al0 r200_0 (wk_getfr r200_1 fd_176_3 (br_176_3 hP0) (wk_il1 r200_4 (wk_dup2 r200_5 (wk_ialdb r200_6 ar_177 ⟨by omega, by omega⟩ (fun q0 q1 => ba_177 hP0 q0 q1) ?_))))
  intro v1 h3 h4 e2
  refine wk_c1 r200_7 (wk_ixor 1 2 r200_8 (by decide) ⟨by omega, by omega⟩ ⟨by omega, by omega⟩ ?_)
  intro v5 h6 h7 h8
  refine wk_iast r200_9 ar_177 ⟨by omega, by omega⟩ (wk_nw (ga_177 _) rfl hP0 hF0 (ua_177 ⟨by omega, by omega⟩) ?_)
  intro M9 hP10 hF11 e12
  subst hQ; exact wk_ret r200_10 (⟨rfl, hP10, hF11⟩)
def fm_m208_176v2 : Nat := 0
/-- IslandHall$Realm.yesRow -/
theorem m208_176v2 {B : eB} (d : Nat) (M0 : Mm) (p1 : Int) (hP0 : Pw M0) (l1 : 0 ≤ p1) (u1 : p1 ≤ 1) : Ct B (d + 1) 208 [R 176, I p1] M0 (qR fun z M => Pw M ∧ Fr fm_m208_176v2 M0 M ∧ 229 ≤ z ∧ z ≤ 230) := by
  refine ct_of (d := d + 0) (k := 0) (L := [some (R 176), some (I p1)]) rfl rfl rfl ?_
  have hF0 := Fr.rf fm_m208_176v2 M0
  generalize hQ : (qR fun z M => Pw M ∧ Fr fm_m208_176v2 M0 M ∧ 229 ≤ z ∧ z ≤ 230) = Q
  refine wk_al0 r208_0 (wk_getfr r208_1 fd_176_0 (br_176_0 hP0) (wk_il1 r208_4 (wk_c1 r208_5 ?_)))
  refine wk_icne r208_6 ⟨by omega, by omega⟩ (by decide) ?_ ?_
  · intro h1
    refine wk_c2 r208_14 (wk_il1 r208_16 (wk_iadd r208_17 (wk_raldb r208_18 ar_182 ⟨by omega, by omega⟩ (fun q0 q1 => ba_182 hP0 q0 q1) ?_)))
    subst hQ; exact wk_aret r208_19 (⟨rfl, _, rfl, hP0, hF0, by omega, by omega⟩)
  · intro h2
    exfalso
    omega
def fm_m148_174_f609_f183_f609v1 : Nat := 16725558898897967356151788704486271129485312
/-- IslandHall$Crowd.narrow -/
theorem m148_174_f609_f183_f609v1 {B : eB} (d : Nat) (M0 : Mm) (a1 : Int) (p2 : Int) (p3 : Int) (a4 : Int) (a5 : Int) (hP0 : Pw M0) (ha1 : 609 ≤ a1) (hb1 : a1 ≤ 612) (l2 : 0 ≤ p2) (u2 : p2 ≤ 6) (l3 : 0 ≤ p3) (u3 : p3 ≤ 1) (ha4 : 183 ≤ a4) (hb4 : a4 ≤ 300) (ha5 : 609 ≤ a5) (hb5 : a5 ≤ 612) : Ct B (d + 2) 148 [R 174, R a1, I p2, I p3, R a4, R a5] M0 (qV fun M => Pw M ∧ Fr fm_m148_174_f609_f183_f609v1 M0 M) := by
  refine ct_of (d := d + 1) (k := 4) (L := [some (R 174), some (R a1), some (I p2), some (I p3), some (R a4), some (R a5), none, none, none, none]) rfl rfl rfl ?_
  have hF0 := Fr.rf fm_m148_174_f609_f183_f609v1 M0
  generalize hQ : (qV fun M => Pw M ∧ Fr fm_m148_174_f609_f183_f609v1 M0 M) = Q
  refine wk_al0 r148_0 (wk_getfr r148_1 fd_174_0 (br_174_0 hP0) (wk_il2 r148_4 (wk_cv2 r148_5 kc_176_190 rfl (m190_176 _ M0 p2 hP0 (by omega) (by omega)) (cqR ?_))))
  rintro v5 M1 ⟨hP2, hQ3, h6, h7⟩
  obtain rfl := Fr.same hQ3
  refine wk_as6 r148_8 rfl (wk_al0 r148_10 (wk_getfr r148_11 fd_174_0 (br_174_0 hP0) (wk_il2 r148_14 (wk_cv2 r148_15 kc_176_193 rfl (m193_176 _ M0 p2 hP0 (by omega) (by omega)) (cqR ?_)))))
  rintro v12 M8 ⟨hP9, hQ10, h13, h14⟩
  obtain rfl := Fr.same hQ10
  refine wk_as7 r148_18 rfl (wk_al0 r148_20 (wk_getfr r148_21 fd_174_0 (br_174_0 hP0) (wk_il3 r148_24 (wk_cv2 r148_25 kc_176_208 rfl (m208_176v2 _ M0 p3 hP0 (by omega) (by omega)) (cqR ?_)))))
  rintro v19 M15 ⟨hP16, hQ17, h20, h21⟩
  obtain rfl := Fr.same hQ17
  refine wk_as8 r148_28 rfl (wk_c1 r148_30 (wk_is9 r148_31 rfl ?_))
  have c33_386 : ∀ (k386 : Nat) (M337 : Mm) (v334 : Int), (5 - v334).toNat = k386 → Pw M337 → Fr fm_m148_174_f609_f183_f609v1 M0 M337 → 0 ≤ v334 → v334 ≤ 5 → Wp B (d + 1) 148 33 [some (R 174), some (R a1), none, none, some (R a4), some (R a5), some (R v5), some (R v12), some (R v19), some (I v334)] [] M337 Q := by
    refine lp_ind ?_
    intro k386 ih386 M337 v334 hk386 hP338 hF339 h335 h336
    refine wk_il9 r148_33 (wk_al0 r148_35 (wk_getfr r148_36 fd_174_0 (br_174_0 hP338) (wk_getfb r148_39 fd_176_10 (bf_176_10 hP338) ?_)))
    intro v340 h342 h343 e341
    refine wk_icge r148_42 ⟨by omega, by omega⟩ ⟨by omega, by omega⟩ ?_ ?_
    · intro h344
      subst hQ; exact wk_ret r148_84 (⟨rfl, hP338, hF339⟩)
    · intro h345
      refine wk_al5 r148_45 (wk_il9 r148_47 (wk_al1 r148_49 (wk_il9 r148_50 (wk_laldb r148_52 (arF_609 (by omega) (by omega)) ⟨by omega, by omega⟩ (fun q0 q1 => ⟨(b4_609 hP338 (by omega) (by omega) q0 q1).1, (b4_609 hP338 (by omega) (by omega) q0 q1).2.1⟩) (by decide) ?_))))
      intro n346 h348 h349 e347
      have h350 : v334 = 4 → n346 ≤ 17592186044415 := by have := b4_609 hP338 (a := a1) (i := v334) (by omega) (by omega) (by omega) (by omega); omega
      refine wk_al6 r148_53 (wk_il9 r148_55 (wk_laldb r148_57 (arF_183 (by omega) (by omega)) ⟨by omega, by omega⟩ (fun q0 q1 => baF_183 hP338 (by omega) (by omega) q0 q1) (by decide) ?_))
      intro n351 h353 h354 e352
      refine wk_al8 r148_58 (wk_il9 r148_60 (wk_laldb r148_62 (arF_183 (by omega) (by omega)) ⟨by omega, by omega⟩ (fun q0 q1 => baF_183 hP338 (by omega) (by omega) q0 q1) (by decide) ?_))
      intro n355 h357 h358 e356
      refine wk_al4 r148_63 (wk_il9 r148_65 (wk_laldb r148_67 (arF_183 (by omega) (by omega)) ⟨by omega, by omega⟩ (fun q0 q1 => baF_183 hP338 (by omega) (by omega) q0 q1) (by decide) ?_))
      intro n359 h361 h362 e360
      refine wk_lxor r148_68 ?_
      intro n363 h364 h365
      refine wk_al7 r148_69 (wk_il9 r148_71 (wk_laldb r148_73 (arF_183 (by omega) (by omega)) ⟨by omega, by omega⟩ (fun q0 q1 => baF_183 hP338 (by omega) (by omega) q0 q1) (by decide) ?_))
      intro n366 h368 h369 e367
      refine wk_lxor r148_74 ?_
      intro n370 h371 h372
      refine wk_lorb r148_75 ?_
      intro n373 h374 h375 h376
      refine wk_land r148_76 ?_
      intro n377 h378 h379 h380 h381
      refine wk_last r148_77 (arF_609 (by omega) (by omega)) ⟨by omega, by omega⟩ (wk_nwt (t4_609 rfl rfl (by omega) (by omega) _) hP338 hF339 (u4_609 (by omega) (by omega) ⟨by omega, by omega, by omega⟩) ?_)
      intro M382 hP383 hF384 e385
      refine wk_inc9 r148_78 rfl (wk_goto r148_81 ?_)
      exact wp_fg (le_s (le_s (le_s (le_s (le_s (le_s (le_s (le_s (le_s (le_s le_0)))))))))) (ih386 (5 - (v334 + 1)).toNat (by omega) M382 (v334 + 1) rfl hP383 hF384 (by omega) (by omega))
  exact wp_fg (le_s (le_s (le_n (le_n (le_s (le_s (le_s (le_s (le_s (le_s le_0)))))))))) (c33_386 _ M0 0 rfl hP0 hF0 (by omega) (by omega))
def fm_m150_174_f609v2 : Nat := 16333553612205046246241981156724874149888
/-- IslandHall$Crowd.tellsAtMost -/
theorem m150_174_f609v2 {B : eB} (d : Nat) (M0 : Mm) (a1 : Int) (p2 : Int) (hP0 : Pw M0) (ha1 : 609 ≤ a1) (hb1 : a1 ≤ 612) (l2 : 1 ≤ p2) (u2 : p2 ≤ 4) : Ct B (d + 3) 150 [R 174, R a1, I p2] M0 (qI fun z M => Pw M ∧ Fr fm_m150_174_f609v2 M0 M ∧ 0 ≤ z ∧ z ≤ 1) := by
  refine ct_of (d := d + 2) (k := 4) (L := [some (R 174), some (R a1), some (I p2), none, none, none, none]) rfl rfl rfl ?_
  have hF0 := Fr.rf fm_m150_174_f609v2 M0
  generalize hQ : (qI fun z M => Pw M ∧ Fr fm_m150_174_f609v2 M0 M ∧ 0 ≤ z ∧ z ≤ 1) = Q
  refine wk_al1 r150_0 (wk_c1 r150_1 (wk_al0 r150_2 (wk_getfr r150_3 fd_174_5 (br_174_5 hP0) (wk_c1 r150_6 (wk_al0 r150_7 (wk_getfi r150_8 fd_174_1 (br_174_1 hP0) (wk_copy110 r150_11 (arF_609 (by omega) (by omega)) (arF_606 (by omega) (by omega)) ⟨by decide, by decide, by decide, by omega, by omega, by omega⟩ rfl (wk_nc (fun i => t4_606 rfl rfl (by omega) (by omega) i) hP0 hF0 (fun i h0 h1 => by have := b4_609 hP0 (a := a1) (by omega) (by omega) h0 (by omega); exact (u4_606 (by omega) (by omega) ⟨by omega, by omega, by omega⟩)) ?_))))))))
  intro M1 hP2 hF3 e4
  refine wk_c1 r150_14 (wk_is3 r150_15 rfl ?_)
  have c16_514 : ∀ (k514 : Nat) (M453 : Mm) (v450 : Int), (4 - v450).toNat = k514 → Pw M453 → Fr fm_m150_174_f609v2 M0 M453 → 0 ≤ v450 → v450 ≤ 4 → Wp B (d + 2) 150 16 [some (R 174), none, some (I p2), some (I v450), none, none, none] [] M453 Q := by
    refine lp_ind ?_
    intro k514 ih514 M453 v450 hk514 hP454 hF455 h451 h452
    refine wk_il3 r150_16 (wk_il2 r150_17 ?_)
    refine wk_icge r150_18 ⟨by omega, by omega⟩ ⟨by omega, by omega⟩ ?_ ?_
    · intro h456
      refine wk_al0 r150_99 (wk_al0 r150_100 (wk_getfr r150_101 fd_174_5 (br_174_5 hP454) (wk_cv2 r150_104 kc_174_149 rfl (m149_174_606 _ M453 hP454) (cqI ?_))))
      rintro v461 M457 ⟨hP458, hQ459, h462, h463⟩
      obtain rfl := Fr.same hQ459
      refine wk_c1 r150_107 ?_
      refine wk_icne r150_108 ⟨by omega, by omega⟩ (by decide) ?_ ?_
      · intro h464
        refine wk_c1 r150_115 ?_
        subst hQ; exact wk_zret r150_116 (by decide) (⟨rfl, _, rfl, hP454, hF455, by omega, by omega⟩)
      · intro h465
        refine wk_c1 r150_111 (wk_goto r150_112 ?_)
        subst hQ; exact wk_zret r150_116 (by decide) (⟨rfl, _, rfl, hP454, hF455, by omega, by omega⟩)
    · intro h466
      refine wk_al0 r150_21 (wk_al0 r150_22 (wk_getfr r150_23 fd_174_5 (br_174_5 hP454) (wk_cv2 r150_26 kc_174_149 rfl (m149_174_606 _ M453 hP454) (cqI ?_))))
      rintro v471 M467 ⟨hP468, hQ469, h472, h473⟩
      obtain rfl := Fr.same hQ469
      refine wk_is4 r150_29 rfl (wk_il4 r150_31 (wk_c1 r150_33 ?_))
      refine wk_icne r150_34 ⟨by omega, by omega⟩ (by decide) ?_ ?_
      · intro h474
        refine wk_al0 r150_39 (wk_getfr r150_40 fd_174_3 (br_174_3 hP454) (wk_al0 r150_43 (wk_getfr r150_44 fd_174_2 (br_174_2 hP454) (wk_il4 r150_47 (wk_ialdb r150_49 ar_304 ⟨by omega, by omega⟩ (fun q0 q1 => ba_304 hP454 q0 q1) ?_)))))
        intro v475 h477 h478 e476
        refine wk_raldb r150_50 ar_305 ⟨by omega, by omega⟩ (fun q0 q1 => ba_305 hP454 q0 q1) (wk_as5 r150_51 rfl (wk_c1 r150_53 (wk_is6 r150_54 rfl ?_)))
        have c56_512 : ∀ (k512 : Nat) (M482 : Mm) (v479 : Int), (5 - v479).toNat = k512 → Pw M482 → Fr fm_m150_174_f609v2 M0 M482 → 0 ≤ v479 → v479 ≤ 5 → Wp B (d + 2) 150 56 [some (R 174), none, some (I p2), some (I v450), none, some (R (306 + v475)), some (I v479)] [] M482 Q := by
          refine lp_ind ?_
          intro k512 ih512 M482 v479 hk512 hP483 hF484 h480 h481
          refine wk_il6 r150_56 (wk_al0 r150_58 (wk_getfr r150_59 fd_174_0 (br_174_0 hP483) (wk_getfb r150_62 fd_176_10 (bf_176_10 hP483) ?_)))
          intro v485 h487 h488 e486
          refine wk_icge r150_65 ⟨by omega, by omega⟩ ⟨by omega, by omega⟩ ?_ ?_
          · intro h489
            refine wk_inc3 r150_93 rfl (wk_goto r150_96 ?_)
            exact wp_fg (le_s (le_s (le_s (le_s (le_s (le_n (le_n le_0))))))) (ih514 (4 - (v450 + 1)).toNat (by omega) M482 (v450 + 1) rfl hP483 hF484 (by omega) (by omega))
          · intro h490
            refine wk_al0 r150_68 (wk_getfr r150_69 fd_174_5 (br_174_5 hP483) (wk_il6 r150_72 (wk_dup2 r150_74 (wk_laldb r150_75 (arF_606 (by omega) (by omega)) ⟨by omega, by omega⟩ (fun q0 q1 => ⟨(b4_606 hP483 (by omega) (by omega) q0 q1).1, (b4_606 hP483 (by omega) (by omega) q0 q1).2.1⟩) (by decide) ?_))))
            intro n491 h493 h494 e492
            have h495 : v479 = 4 → n491 ≤ 17592186044415 := by have := b4_606 hP483 (a := 606) (i := v479) (by omega) (by omega) (by omega) (by omega); omega
            refine wk_al5 r150_76 (wk_il6 r150_78 (wk_laldb r150_80 (arF_306 (by omega) (by omega)) ⟨by omega, by omega⟩ (fun q0 q1 => baF_306 hP483 (by omega) (by omega) q0 q1) (by decide) ?_))
            intro n496 h498 h499 e497
            refine wk_c7 r150_81 (wk_lxor r150_84 ?_)
            intro n500 h501 h502
            refine wk_land r150_85 ?_
            intro n503 h504 h505 h506 h507
            refine wk_last r150_86 (arF_606 (by omega) (by omega)) ⟨by omega, by omega⟩ (wk_nwt (t4_606 rfl rfl (by omega) (by omega) _) hP483 hF484 (u4_606 (by omega) (by omega) ⟨by omega, by omega, by omega⟩) ?_)
            intro M508 hP509 hF510 e511
            refine wk_inc6 r150_87 rfl (wk_goto r150_90 ?_)
            exact wp_fg (le_s (le_s (le_s (le_s (le_s (le_s (le_s le_0))))))) (ih512 (5 - (v479 + 1)).toNat (by omega) M508 (v479 + 1) rfl hP509 hF510 (by omega) (by omega))
        exact wp_fg (le_s (le_s (le_s (le_s (le_n (le_s (le_s le_0))))))) (c56_512 _ M453 0 rfl hP454 hF455 (by omega) (by omega))
      · intro h513
        refine wk_c1 r150_37 ?_
        subst hQ; exact wk_zret r150_38 (by decide) (⟨rfl, _, rfl, hP454, hF455, by omega, by omega⟩)
  exact wp_fg (le_s (le_n (le_s (le_s (le_s (le_s (le_s le_0))))))) (c16_514 _ M1 0 rfl hP2 hF3 (by omega) (by omega))
def fm_m150_174_f609v3 : Nat := 16333553612205046246241981156724874149888
/-- IslandHall$Crowd.tellsAtMost -/
theorem m150_174_f609v3 {B : eB} (d : Nat) (M0 : Mm) (a1 : Int) (p2 : Int) (hP0 : Pw M0) (ha1 : 609 ≤ a1) (hb1 : a1 ≤ 612) (l2 : 1 ≤ p2) (u2 : p2 ≤ 8) : Ct B (d + 3) 150 [R 174, R a1, I p2] M0 (qI fun z M => Pw M ∧ Fr fm_m150_174_f609v3 M0 M ∧ 0 ≤ z ∧ z ≤ 1) := by
  refine ct_of (d := d + 2) (k := 4) (L := [some (R 174), some (R a1), some (I p2), none, none, none, none]) rfl rfl rfl ?_
  have hF0 := Fr.rf fm_m150_174_f609v3 M0
  generalize hQ : (qI fun z M => Pw M ∧ Fr fm_m150_174_f609v3 M0 M ∧ 0 ≤ z ∧ z ≤ 1) = Q
  refine wk_al1 r150_0 (wk_c1 r150_1 (wk_al0 r150_2 (wk_getfr r150_3 fd_174_5 (br_174_5 hP0) (wk_c1 r150_6 (wk_al0 r150_7 (wk_getfi r150_8 fd_174_1 (br_174_1 hP0) (wk_copy110 r150_11 (arF_609 (by omega) (by omega)) (arF_606 (by omega) (by omega)) ⟨by decide, by decide, by decide, by omega, by omega, by omega⟩ rfl (wk_nc (fun i => t4_606 rfl rfl (by omega) (by omega) i) hP0 hF0 (fun i h0 h1 => by have := b4_609 hP0 (a := a1) (by omega) (by omega) h0 (by omega); exact (u4_606 (by omega) (by omega) ⟨by omega, by omega, by omega⟩)) ?_))))))))
  intro M1 hP2 hF3 e4
  refine wk_c1 r150_14 (wk_is3 r150_15 rfl ?_)
  have c16_706 : ∀ (k706 : Nat) (M645 : Mm) (v642 : Int), (8 - v642).toNat = k706 → Pw M645 → Fr fm_m150_174_f609v3 M0 M645 → 0 ≤ v642 → v642 ≤ 8 → Wp B (d + 2) 150 16 [some (R 174), none, some (I p2), some (I v642), none, none, none] [] M645 Q := by
    refine lp_ind ?_
    intro k706 ih706 M645 v642 hk706 hP646 hF647 h643 h644
    refine wk_il3 r150_16 (wk_il2 r150_17 ?_)
    refine wk_icge r150_18 ⟨by omega, by omega⟩ ⟨by omega, by omega⟩ ?_ ?_
    · intro h648
      refine wk_al0 r150_99 (wk_al0 r150_100 (wk_getfr r150_101 fd_174_5 (br_174_5 hP646) (wk_cv2 r150_104 kc_174_149 rfl (m149_174_606 _ M645 hP646) (cqI ?_))))
      rintro v653 M649 ⟨hP650, hQ651, h654, h655⟩
      obtain rfl := Fr.same hQ651
      refine wk_c1 r150_107 ?_
      refine wk_icne r150_108 ⟨by omega, by omega⟩ (by decide) ?_ ?_
      · intro h656
        refine wk_c1 r150_115 ?_
        subst hQ; exact wk_zret r150_116 (by decide) (⟨rfl, _, rfl, hP646, hF647, by omega, by omega⟩)
      · intro h657
        refine wk_c1 r150_111 (wk_goto r150_112 ?_)
        subst hQ; exact wk_zret r150_116 (by decide) (⟨rfl, _, rfl, hP646, hF647, by omega, by omega⟩)
    · intro h658
      refine wk_al0 r150_21 (wk_al0 r150_22 (wk_getfr r150_23 fd_174_5 (br_174_5 hP646) (wk_cv2 r150_26 kc_174_149 rfl (m149_174_606 _ M645 hP646) (cqI ?_))))
      rintro v663 M659 ⟨hP660, hQ661, h664, h665⟩
      obtain rfl := Fr.same hQ661
      refine wk_is4 r150_29 rfl (wk_il4 r150_31 (wk_c1 r150_33 ?_))
      refine wk_icne r150_34 ⟨by omega, by omega⟩ (by decide) ?_ ?_
      · intro h666
        refine wk_al0 r150_39 (wk_getfr r150_40 fd_174_3 (br_174_3 hP646) (wk_al0 r150_43 (wk_getfr r150_44 fd_174_2 (br_174_2 hP646) (wk_il4 r150_47 (wk_ialdb r150_49 ar_304 ⟨by omega, by omega⟩ (fun q0 q1 => ba_304 hP646 q0 q1) ?_)))))
        intro v667 h669 h670 e668
        refine wk_raldb r150_50 ar_305 ⟨by omega, by omega⟩ (fun q0 q1 => ba_305 hP646 q0 q1) (wk_as5 r150_51 rfl (wk_c1 r150_53 (wk_is6 r150_54 rfl ?_)))
        have c56_704 : ∀ (k704 : Nat) (M674 : Mm) (v671 : Int), (5 - v671).toNat = k704 → Pw M674 → Fr fm_m150_174_f609v3 M0 M674 → 0 ≤ v671 → v671 ≤ 5 → Wp B (d + 2) 150 56 [some (R 174), none, some (I p2), some (I v642), none, some (R (306 + v667)), some (I v671)] [] M674 Q := by
          refine lp_ind ?_
          intro k704 ih704 M674 v671 hk704 hP675 hF676 h672 h673
          refine wk_il6 r150_56 (wk_al0 r150_58 (wk_getfr r150_59 fd_174_0 (br_174_0 hP675) (wk_getfb r150_62 fd_176_10 (bf_176_10 hP675) ?_)))
          intro v677 h679 h680 e678
          refine wk_icge r150_65 ⟨by omega, by omega⟩ ⟨by omega, by omega⟩ ?_ ?_
          · intro h681
            refine wk_inc3 r150_93 rfl (wk_goto r150_96 ?_)
            exact wp_fg (le_s (le_s (le_s (le_s (le_s (le_n (le_n le_0))))))) (ih706 (8 - (v642 + 1)).toNat (by omega) M674 (v642 + 1) rfl hP675 hF676 (by omega) (by omega))
          · intro h682
            refine wk_al0 r150_68 (wk_getfr r150_69 fd_174_5 (br_174_5 hP675) (wk_il6 r150_72 (wk_dup2 r150_74 (wk_laldb r150_75 (arF_606 (by omega) (by omega)) ⟨by omega, by omega⟩ (fun q0 q1 => ⟨(b4_606 hP675 (by omega) (by omega) q0 q1).1, (b4_606 hP675 (by omega) (by omega) q0 q1).2.1⟩) (by decide) ?_))))
            intro n683 h685 h686 e684
            have h687 : v671 = 4 → n683 ≤ 17592186044415 := by have := b4_606 hP675 (a := 606) (i := v671) (by omega) (by omega) (by omega) (by omega); omega
            refine wk_al5 r150_76 (wk_il6 r150_78 (wk_laldb r150_80 (arF_306 (by omega) (by omega)) ⟨by omega, by omega⟩ (fun q0 q1 => baF_306 hP675 (by omega) (by omega) q0 q1) (by decide) ?_))
            intro n688 h690 h691 e689
            refine wk_c7 r150_81 (wk_lxor r150_84 ?_)
            intro n692 h693 h694
            refine wk_land r150_85 ?_
            intro n695 h696 h697 h698 h699
            refine wk_last r150_86 (arF_606 (by omega) (by omega)) ⟨by omega, by omega⟩ (wk_nwt (t4_606 rfl rfl (by omega) (by omega) _) hP675 hF676 (u4_606 (by omega) (by omega) ⟨by omega, by omega, by omega⟩) ?_)
            intro M700 hP701 hF702 e703
            refine wk_inc6 r150_87 rfl (wk_goto r150_90 ?_)
            exact wp_fg (le_s (le_s (le_s (le_s (le_s (le_s (le_s le_0))))))) (ih704 (5 - (v671 + 1)).toNat (by omega) M700 (v671 + 1) rfl hP701 hF702 (by omega) (by omega))
        exact wp_fg (le_s (le_s (le_s (le_s (le_n (le_s (le_s le_0))))))) (c56_704 _ M645 0 rfl hP646 hF647 (by omega) (by omega))
      · intro h705
        refine wk_c1 r150_37 ?_
        subst hQ; exact wk_zret r150_38 (by decide) (⟨rfl, _, rfl, hP646, hF647, by omega, by omega⟩)
  exact wp_fg (le_s (le_n (le_s (le_s (le_s (le_s (le_s le_0))))))) (c16_706 _ M1 0 rfl hP2 hF3 (by omega) (by omega))
def fm_m2_607v8 : Nat := 0
/-- IslandHall$Asker.opener -/
theorem m2_607v8 {B : eB} (d : Nat) (M0 : Mm) (p1 : Int) (p2 : Int) (hP0 : Pw M0) (l1 : 3 ≤ p1) (u1 : p1 ≤ 3) (l2 : 0 ≤ p2) (u2 : p2 ≤ 0) : Ct B (d + 1) 2 [R 607, I p1, I p2] M0 (qI fun z M => Pw M ∧ Fr fm_m2_607v8 M0 M ∧ (-1) ≤ z ∧ z ≤ (-1)) := by
  refine ct_of (d := d + 0) (k := 1) (L := [some (R 607), some (I p1), some (I p2), none]) rfl rfl rfl ?_
  have hF0 := Fr.rf fm_m2_607v8 M0
  generalize hQ : (qI fun z M => Pw M ∧ Fr fm_m2_607v8 M0 M ∧ (-1) ≤ z ∧ z ≤ (-1)) = Q
  refine wk_il2 r2_0 ?_
  refine wk_ifle r2_1 ⟨by omega, by omega⟩ ?_ ?_
  · intro h1
    refine wk_c1 r2_28 ?_
    subst hQ; exact wk_iret r2_29 (⟨rfl, _, rfl, hP0, hF0, by omega, by omega⟩)
  · intro h2
    exfalso
    omega
def fm_m3_607v29 : Nat := 16741913844773229565887860231287872390430720
/-- IslandHall$Asker.opens -/
theorem m3_607v29 {B : eB} (d : Nat) (M0 : Mm) (p1 : Int) (p2 : Int) (p3 : Int) (hP0 : Pw M0) (l1 : 0 ≤ p1) (u1 : p1 ≤ 9) (l2 : 2 ≤ p2) (u2 : p2 ≤ 2) (l3 : 1 ≤ p3) (u3 : p3 ≤ 1) : Ct B (d + 5) 3 [R 607, I p1, I p2, I p3] M0 (qI fun z M => Pw M ∧ Fr fm_m3_607v29 M0 M ∧ 0 ≤ z ∧ z ≤ 1) := by
  refine ct_of (d := d + 4) (k := 5) (L := [some (R 607), some (I p1), some (I p2), some (I p3), none, none, none, none, none]) rfl rfl rfl ?_
  have hF0 := Fr.rf fm_m3_607v29 M0
  generalize hQ : (qI fun z M => Pw M ∧ Fr fm_m3_607v29 M0 M ∧ 0 ≤ z ∧ z ≤ 1) = Q
  refine wk_al0 r3_0 (wk_getfr r3_1 fd_607_0 (br_607_0 hP0) (wk_getfr r3_4 fd_174_0 (br_174_0 hP0) (wk_as4 r3_7 rfl (wk_al0 r3_9 (wk_getfr r3_10 fd_607_2 (br_607_2 hP0) (wk_il1 r3_13 (wk_ialdb r3_14 ar_169 ⟨by omega, by omega⟩ (fun q0 q1 => ba_169 hP0 q0 q1) ?_)))))))
  intro v1 h3 h4 e2
  refine wk_c2 r3_15 (wk_idiv r3_17 ⟨by omega, by omega⟩ (by decide) (wk_is5 r3_18 rfl (wk_al4 r3_20 (wk_getfr r3_22 fd_176_0 (br_176_0 hP0) (wk_c2 r3_25 (wk_al0 r3_27 (wk_getfb r3_28 fd_607_5 (bf_607_5 hP0) ?_)))))))
  intro v6 h8 h9 e7
  refine wk_iadd r3_31 (wk_il2 r3_32 (wk_iadd r3_33 (wk_raldb r3_34 ar_182 ⟨by omega, by omega⟩ (fun q0 q1 => ba_182 hP0 q0 q1) (wk_as6 r3_35 rfl (wk_al4 r3_37 (wk_al0 r3_39 (wk_getfr r3_40 fd_607_1 (br_607_1 hP0) (wk_al0 r3_43 (wk_getfr r3_44 fd_607_2 (br_607_2 hP0) (wk_il1 r3_47 (wk_iald r3_48 ar_169 ⟨by omega, by omega⟩ e2 (wk_c2 r3_49 (wk_irem r3_51 ⟨by omega, by omega⟩ (by decide) (wk_caldb r3_52 ar_168 ⟨by omega, by omega⟩ (fun q0 q1 => ba_168 hP0 q0 q1) ?_))))))))))))))
  intro v10 e11
  have hC12 : isC v10 := Or.inr (by omega)
  refine wk_al6 r3_53 (wk_cv3 r3_55 kc_176_196 rfl (m196_176_f183 _ M0 v10 (183 + ((102 + v6) + p2)) hP0 hC12 (by omega) (by omega)) (cqV ?_))
  rintro M13 ⟨hP14, hQ15⟩
  have hF16 : Fr fm_m3_607v29 M0 M13 := hF0.tr hQ15 rfl
  refine wk_c1 r3_58 (wk_is7 r3_59 rfl (wk_c1 r3_61 (wk_is8 r3_62 rfl ?_)))
  have c64_165 : ∀ (k165 : Nat) (M118 : Mm) (v112 : Int) (v115 : Int), (2 - v115).toNat = k165 → Pw M118 → Fr fm_m3_607v29 M0 M118 → M118 607 5 = v6 → 0 ≤ v112 → v112 ≤ 1 → 0 ≤ v115 → v115 ≤ 2 → 0 ≤ (-1) * v112 + v115 + 1 → Wp B (d + 4) 3 64 [some (R 607), none, some (I p2), some (I p3), some (R 176), some (I (v1 / 30)), some (R (183 + ((102 + v6) + p2))), some (I v112), some (I v115)] [] M118 Q := by
    refine lp_ind ?_
    intro k165 ih165 M118 v112 v115 hk165 hP119 hF120 e121 h113 h114 h116 h117 h122
    refine wk_il8 r3_64 (wk_c1 r3_66 ?_)
    refine wk_icge r3_67 ⟨by omega, by omega⟩ (by decide) ?_ ?_
    · intro h123
      refine wk_al6 r3_162 (wk_c6 r3_164 (wk_cs102_2 r3_165 rfl (ct_fl (arF_183 (by omega) (by omega))) (cqV ?_)))
      intro M124 e125
      have hP126 : Pw M124 := by rw [e125]; exact hP119.fil (fun i => (uaF_183 (by omega) (by omega) ⟨by omega, by omega⟩))
      have hF127 : Fr fm_m3_607v29 M0 M124 := by rw [e125]; exact hF120.fil (fun i => by rw [(gr_183 (by omega) (by omega) i)]; rfl)
      refine wk_il7 r3_168 ?_
      subst hQ; exact wk_zret r3_170 ⟨by omega, by omega⟩ (⟨rfl, _, rfl, hP126, hF127, by omega, by omega⟩)
    · intro h128
      refine wk_il7 r3_70 ?_
      refine wk_ifeq r3_72 ⟨by omega, by omega⟩ ?_ ?_
      · intro h129
        refine wk_al6 r3_162 (wk_c6 r3_164 (wk_cs102_2 r3_165 rfl (ct_fl (arF_183 (by omega) (by omega))) (cqV ?_)))
        intro M130 e131
        have hP132 : Pw M130 := by rw [e131]; exact hP119.fil (fun i => (uaF_183 (by omega) (by omega) ⟨by omega, by omega⟩))
        have hF133 : Fr fm_m3_607v29 M0 M130 := by rw [e131]; exact hF120.fil (fun i => by rw [(gr_183 (by omega) (by omega) i)]; rfl)
        refine wk_il7 r3_168 ?_
        subst hQ; exact wk_zret r3_170 ⟨by omega, by omega⟩ (⟨rfl, _, rfl, hP132, hF133, by omega, by omega⟩)
      · intro h134
        refine wk_al0 r3_75 (wk_getfr r3_76 fd_607_0 (br_607_0 hP119) (wk_al0 r3_79 (wk_getfr r3_80 fd_607_3 (br_607_3 hP119) (wk_il2 r3_83 (wk_raldb r3_84 ar_608 ⟨by omega, by omega⟩ (fun q0 q1 => ba_608 hP119 q0 q1) (wk_il5 r3_85 (wk_il8 r3_87 (wk_al6 r3_89 (wk_al0 r3_91 (wk_getfr r3_92 fd_607_3 (br_607_3 hP119) (wk_il2 r3_95 (wk_c1 r3_96 (wk_iadd r3_97 (wk_raldb r3_98 ar_608 ⟨by omega, by omega⟩ (fun q0 q1 => ba_608 hP119 q0 q1) (wk_cv6 r3_99 kc_174_148 rfl (m148_174_f609_f183_f609v1 _ M118 (609 + p2) (v1 / 30) v115 (183 + ((102 + v6) + p2)) (609 + (p2 + 1)) hP119 (by omega) (by omega) (by omega) (by omega) (by omega) (by omega) (by omega) (by omega) (by omega) (by omega)) (cqV ?_))))))))))))))))
        rintro M135 ⟨hP136, hQ137⟩
        have hF138 : Fr fm_m3_607v29 M0 M135 := hF120.tr hQ137 rfl
        refine wk_al0 r3_102 (wk_getfr r3_103 fd_607_0 (br_607_0 hP136) (wk_al0 r3_106 (wk_getfr r3_107 fd_607_3 (br_607_3 hP136) (wk_il2 r3_110 (wk_c1 r3_111 (wk_iadd r3_112 (wk_raldb r3_113 ar_608 ⟨by omega, by omega⟩ (fun q0 q1 => ba_608 hP136 q0 q1) (wk_c1 r3_114 (wk_cv3 r3_115 kc_174_150 rfl (m150_174_f609 _ M135 (609 + (p2 + 1)) 1 hP136 (by omega) (by omega) (by decide) (by decide)) (cqI ?_))))))))))
        rintro v143 M139 ⟨hP140, hQ141, h144, h145⟩
        have hF142 : Fr fm_m3_607v29 M0 M139 := hF138.tr hQ141 rfl
        refine wk_ifne r3_118 ⟨by omega, by omega⟩ ?_ ?_
        · intro h146
          refine wk_inc8 r3_156 rfl (wk_goto r3_159 ?_)
          exact wp_fg (le_s (le_s (le_s (le_s (le_s (le_s (le_s (le_s (le_s le_0))))))))) (ih165 (2 - (v115 + 1)).toNat (by omega) M139 v112 (v115 + 1) rfl hP140 hF142 ((hQ141.at g_607_5 rfl).trans ((hQ137.at g_607_5 rfl).trans e121)) (by omega) (by omega) (by omega) (by omega) (by omega))
        · intro h147
          refine wk_al4 r3_121 (wk_il5 r3_123 (wk_cv2 r3_125 kc_176_200 rfl (m200_176 _ M139 (v1 / 30) hP140 (by omega) (by omega)) (cqV ?_)))
          rintro M148 ⟨hP149, hQ150⟩
          have hF151 : Fr fm_m3_607v29 M0 M148 := hF142.tr hQ150 rfl
          refine wk_al0 r3_128 (wk_il2 r3_129 (wk_c1 r3_130 (wk_iadd r3_131 (wk_il3 r3_132 (wk_c1 r3_133 (wk_isub r3_134 (wk_cv3 r3_135 kc_607_2 rfl (m2_607v8 _ M148 (p2 + 1) (p3 - 1) hP149 (by omega) (by omega) (by omega) (by omega)) (cqI ?_))))))))
          rintro v156 M152 ⟨hP153, hQ154, h157, h158⟩
          obtain rfl := Fr.same hQ154
          refine wk_c1 r3_138 ?_
          refine wk_iceq r3_139 ⟨by omega, by omega⟩ (by decide) ?_ ?_
          · intro h159
            refine wk_c1 r3_146 (wk_is7 r3_147 rfl (wk_al4 r3_149 (wk_il5 r3_151 (wk_cv2 r3_153 kc_176_200 rfl (m200_176 _ M148 (v1 / 30) hP149 (by omega) (by omega)) (cqV ?_)))))
            rintro M160 ⟨hP161, hQ162⟩
            have hF163 : Fr fm_m3_607v29 M0 M160 := hF151.tr hQ162 rfl
            refine wk_inc8 r3_156 rfl (wk_goto r3_159 ?_)
            exact wp_fg (le_s (le_s (le_s (le_s (le_s (le_s (le_s (le_s (le_s le_0))))))))) (ih165 (2 - (v115 + 1)).toNat (by omega) M160 0 (v115 + 1) rfl hP161 hF163 ((hQ162.at g_607_5 rfl).trans ((hQ150.at g_607_5 rfl).trans ((hQ141.at g_607_5 rfl).trans ((hQ137.at g_607_5 rfl).trans e121)))) (by omega) (by omega) (by omega) (by omega) (by omega))
          · intro h164
            exfalso
            omega
  exact wp_fg (le_s (le_n (le_s (le_s (le_s (le_s (le_s (le_s (le_s le_0))))))))) (c64_165 _ M13 1 0 rfl hP14 hF16 ((hQ15.at g_607_5 rfl).trans e7) (by omega) (by omega) (by omega) (by omega) (by omega))
def fm_m2_607v7 : Nat := 16741913844773229565887860231287872390430720
/-- IslandHall$Asker.opener -/
theorem m2_607v7 {B : eB} (d : Nat) (M0 : Mm) (p1 : Int) (p2 : Int) (hP0 : Pw M0) (l1 : 2 ≤ p1) (u1 : p1 ≤ 2) (l2 : 0 ≤ p2) (u2 : p2 ≤ 1) : Ct B (d + 6) 2 [R 607, I p1, I p2] M0 (qI fun z M => Pw M ∧ Fr fm_m2_607v7 M0 M ∧ (-1) ≤ z ∧ z ≤ 9) := by
  refine ct_of (d := d + 5) (k := 1) (L := [some (R 607), some (I p1), some (I p2), none]) rfl rfl rfl ?_
  have hF0 := Fr.rf fm_m2_607v7 M0
  generalize hQ : (qI fun z M => Pw M ∧ Fr fm_m2_607v7 M0 M ∧ (-1) ≤ z ∧ z ≤ 9) = Q
  refine wk_il2 r2_0 ?_
  refine wk_ifle r2_1 ⟨by omega, by omega⟩ ?_ ?_
  · intro h1
    refine wk_c1 r2_28 ?_
    subst hQ; exact wk_iret r2_29 (⟨rfl, _, rfl, hP0, hF0, by omega, by omega⟩)
  · intro h2
    refine wk_il1 r2_4 (wk_c1 r2_5 ?_)
    refine wk_icge r2_6 ⟨by omega, by omega⟩ (by decide) ?_ ?_
    · intro h3
      exfalso
      omega
    · intro h4
      refine wk_al0 r2_9 (wk_getfr r2_10 fd_607_0 (br_607_0 hP0) (wk_al0 r2_13 (wk_getfr r2_14 fd_607_3 (br_607_3 hP0) (wk_il1 r2_17 (wk_raldb r2_18 ar_608 ⟨by omega, by omega⟩ (fun q0 q1 => ba_608 hP0 q0 q1) (wk_c1 r2_19 (wk_il2 r2_20 (wk_shl1 1 2 r2_21 ⟨by omega, by omega⟩ ⟨pwl_1, by decide⟩ ?_))))))))
      intro v5 h6 h7 h8
      refine wk_cv3 r2_22 kc_174_150 rfl (m150_174_f609v1 _ M0 (609 + p1) v5 hP0 (by omega) (by omega) (by omega) (by omega)) (cqI ?_)
      rintro v13 M9 ⟨hP10, hQ11, h14, h15⟩
      have hF12 : Fr fm_m2_607v7 M0 M9 := hF0.tr hQ11 rfl
      refine wk_ifne r2_25 ⟨by omega, by omega⟩ ?_ ?_
      · intro h16
        refine wk_c1 r2_30 (wk_is3 r2_31 rfl ?_)
        have c32_185 : ∀ (k185 : Nat) (M167 : Mm) (v164 : Int), (10 - v164).toNat = k185 → Pw M167 → Fr fm_m2_607v7 M0 M167 → 0 ≤ v164 → v164 ≤ 10 → Wp B (d + 5) 2 32 [some (R 607), some (I p1), some (I p2), some (I v164)] [] M167 Q := by
          refine lp_ind ?_
          intro k185 ih185 M167 v164 hk185 hP168 hF169 h165 h166
          refine wk_il3 r2_32 (wk_al0 r2_33 (wk_getfb r2_34 fd_607_4 (bf_607_4 hP168) ?_))
          intro v170 h172 h173 e171
          refine wk_icge r2_37 ⟨by omega, by omega⟩ ⟨by omega, by omega⟩ ?_ ?_
          · intro h174
            refine wk_c1 r2_58 ?_
            subst hQ; exact wk_iret r2_59 (⟨rfl, _, rfl, hP168, hF169, by omega, by omega⟩)
          · intro h175
            refine wk_al0 r2_40 (wk_il3 r2_41 (wk_il1 r2_42 (wk_il2 r2_43 (wk_cv4 r2_44 kc_607_3 rfl (m3_607v29 _ M167 v164 p1 p2 hP168 (by omega) (by omega) (by omega) (by omega) (by omega) (by omega)) (cqI ?_)))))
            rintro v180 M176 ⟨hP177, hQ178, h181, h182⟩
            have hF179 : Fr fm_m2_607v7 M0 M176 := hF169.tr hQ178 rfl
            refine wk_ifeq r2_47 ⟨by omega, by omega⟩ ?_ ?_
            · intro h183
              refine wk_inc3 r2_52 rfl (wk_goto r2_55 ?_)
              exact wp_fg (le_s (le_s (le_s (le_s le_0)))) (ih185 (10 - (v164 + 1)).toNat (by omega) M176 (v164 + 1) rfl hP177 hF179 (by omega) (by omega))
            · intro h184
              refine wk_il3 r2_50 ?_
              subst hQ; exact wk_iret r2_51 (⟨rfl, _, rfl, hP177, hF179, by omega, by omega⟩)
        exact wp_fg (le_s (le_s (le_s (le_s le_0)))) (c32_185 _ M9 0 rfl hP10 hF12 (by omega) (by omega))
      · intro h186
        refine wk_c1 r2_28 ?_
        subst hQ; exact wk_iret r2_29 (⟨rfl, _, rfl, hP10, hF12, by omega, by omega⟩)
def fm_m3_607v35 : Nat := 16741913844773229565887860231287872390430720
/-- IslandHall$Asker.opens -/
theorem m3_607v35 {B : eB} (d : Nat) (M0 : Mm) (p1 : Int) (p2 : Int) (p3 : Int) (hP0 : Pw M0) (l1 : 0 ≤ p1) (u1 : p1 ≤ 9) (l2 : 1 ≤ p2) (u2 : p2 ≤ 1) (l3 : 1 ≤ p3) (u3 : p3 ≤ 2) : Ct B (d + 7) 3 [R 607, I p1, I p2, I p3] M0 (qI fun z M => Pw M ∧ Fr fm_m3_607v35 M0 M ∧ 0 ≤ z ∧ z ≤ 1) := by
  refine ct_of (d := d + 6) (k := 5) (L := [some (R 607), some (I p1), some (I p2), some (I p3), none, none, none, none, none]) rfl rfl rfl ?_
  have hF0 := Fr.rf fm_m3_607v35 M0
  generalize hQ : (qI fun z M => Pw M ∧ Fr fm_m3_607v35 M0 M ∧ 0 ≤ z ∧ z ≤ 1) = Q
  refine wk_al0 r3_0 (wk_getfr r3_1 fd_607_0 (br_607_0 hP0) (wk_getfr r3_4 fd_174_0 (br_174_0 hP0) (wk_as4 r3_7 rfl (wk_al0 r3_9 (wk_getfr r3_10 fd_607_2 (br_607_2 hP0) (wk_il1 r3_13 (wk_ialdb r3_14 ar_169 ⟨by omega, by omega⟩ (fun q0 q1 => ba_169 hP0 q0 q1) ?_)))))))
  intro v1 h3 h4 e2
  refine wk_c2 r3_15 (wk_idiv r3_17 ⟨by omega, by omega⟩ (by decide) (wk_is5 r3_18 rfl (wk_al4 r3_20 (wk_getfr r3_22 fd_176_0 (br_176_0 hP0) (wk_c2 r3_25 (wk_al0 r3_27 (wk_getfb r3_28 fd_607_5 (bf_607_5 hP0) ?_)))))))
  intro v6 h8 h9 e7
  refine wk_iadd r3_31 (wk_il2 r3_32 (wk_iadd r3_33 (wk_raldb r3_34 ar_182 ⟨by omega, by omega⟩ (fun q0 q1 => ba_182 hP0 q0 q1) (wk_as6 r3_35 rfl (wk_al4 r3_37 (wk_al0 r3_39 (wk_getfr r3_40 fd_607_1 (br_607_1 hP0) (wk_al0 r3_43 (wk_getfr r3_44 fd_607_2 (br_607_2 hP0) (wk_il1 r3_47 (wk_iald r3_48 ar_169 ⟨by omega, by omega⟩ e2 (wk_c2 r3_49 (wk_irem r3_51 ⟨by omega, by omega⟩ (by decide) (wk_caldb r3_52 ar_168 ⟨by omega, by omega⟩ (fun q0 q1 => ba_168 hP0 q0 q1) ?_))))))))))))))
  intro v10 e11
  have hC12 : isC v10 := Or.inr (by omega)
  refine wk_al6 r3_53 (wk_cv3 r3_55 kc_176_196 rfl (m196_176_f183 _ M0 v10 (183 + ((102 + v6) + p2)) hP0 hC12 (by omega) (by omega)) (cqV ?_))
  rintro M13 ⟨hP14, hQ15⟩
  have hF16 : Fr fm_m3_607v35 M0 M13 := hF0.tr hQ15 rfl
  refine wk_c1 r3_58 (wk_is7 r3_59 rfl (wk_c1 r3_61 (wk_is8 r3_62 rfl ?_)))
  have c64_177 : ∀ (k177 : Nat) (M126 : Mm) (v120 : Int) (v123 : Int), (2 - v123).toNat = k177 → Pw M126 → Fr fm_m3_607v35 M0 M126 → M126 607 5 = v6 → 0 ≤ v120 → v120 ≤ 1 → 0 ≤ v123 → v123 ≤ 2 → 0 ≤ (-1) * v120 + v123 + 1 → Wp B (d + 6) 3 64 [some (R 607), none, some (I p2), some (I p3), some (R 176), some (I (v1 / 30)), some (R (183 + ((102 + v6) + p2))), some (I v120), some (I v123)] [] M126 Q := by
    refine lp_ind ?_
    intro k177 ih177 M126 v120 v123 hk177 hP127 hF128 e129 h121 h122 h124 h125 h130
    refine wk_il8 r3_64 (wk_c1 r3_66 ?_)
    refine wk_icge r3_67 ⟨by omega, by omega⟩ (by decide) ?_ ?_
    · intro h131
      refine wk_al6 r3_162 (wk_c6 r3_164 (wk_cs102_2 r3_165 rfl (ct_fl (arF_183 (by omega) (by omega))) (cqV ?_)))
      intro M132 e133
      have hP134 : Pw M132 := by rw [e133]; exact hP127.fil (fun i => (uaF_183 (by omega) (by omega) ⟨by omega, by omega⟩))
      have hF135 : Fr fm_m3_607v35 M0 M132 := by rw [e133]; exact hF128.fil (fun i => by rw [(gr_183 (by omega) (by omega) i)]; rfl)
      refine wk_il7 r3_168 ?_
      subst hQ; exact wk_zret r3_170 ⟨by omega, by omega⟩ (⟨rfl, _, rfl, hP134, hF135, by omega, by omega⟩)
    · intro h136
      refine wk_il7 r3_70 ?_
      refine wk_ifeq r3_72 ⟨by omega, by omega⟩ ?_ ?_
      · intro h137
        refine wk_al6 r3_162 (wk_c6 r3_164 (wk_cs102_2 r3_165 rfl (ct_fl (arF_183 (by omega) (by omega))) (cqV ?_)))
        intro M138 e139
        have hP140 : Pw M138 := by rw [e139]; exact hP127.fil (fun i => (uaF_183 (by omega) (by omega) ⟨by omega, by omega⟩))
        have hF141 : Fr fm_m3_607v35 M0 M138 := by rw [e139]; exact hF128.fil (fun i => by rw [(gr_183 (by omega) (by omega) i)]; rfl)
        refine wk_il7 r3_168 ?_
        subst hQ; exact wk_zret r3_170 ⟨by omega, by omega⟩ (⟨rfl, _, rfl, hP140, hF141, by omega, by omega⟩)
      · intro h142
        refine wk_al0 r3_75 (wk_getfr r3_76 fd_607_0 (br_607_0 hP127) (wk_al0 r3_79 (wk_getfr r3_80 fd_607_3 (br_607_3 hP127) (wk_il2 r3_83 (wk_raldb r3_84 ar_608 ⟨by omega, by omega⟩ (fun q0 q1 => ba_608 hP127 q0 q1) (wk_il5 r3_85 (wk_il8 r3_87 (wk_al6 r3_89 (wk_al0 r3_91 (wk_getfr r3_92 fd_607_3 (br_607_3 hP127) (wk_il2 r3_95 (wk_c1 r3_96 (wk_iadd r3_97 (wk_raldb r3_98 ar_608 ⟨by omega, by omega⟩ (fun q0 q1 => ba_608 hP127 q0 q1) (wk_cv6 r3_99 kc_174_148 rfl (m148_174_f609_f183_f609v1 _ M126 (609 + p2) (v1 / 30) v123 (183 + ((102 + v6) + p2)) (609 + (p2 + 1)) hP127 (by omega) (by omega) (by omega) (by omega) (by omega) (by omega) (by omega) (by omega) (by omega) (by omega)) (cqV ?_))))))))))))))))
        rintro M143 ⟨hP144, hQ145⟩
        have hF146 : Fr fm_m3_607v35 M0 M143 := hF128.tr hQ145 rfl
        refine wk_al0 r3_102 (wk_getfr r3_103 fd_607_0 (br_607_0 hP144) (wk_al0 r3_106 (wk_getfr r3_107 fd_607_3 (br_607_3 hP144) (wk_il2 r3_110 (wk_c1 r3_111 (wk_iadd r3_112 (wk_raldb r3_113 ar_608 ⟨by omega, by omega⟩ (fun q0 q1 => ba_608 hP144 q0 q1) (wk_c1 r3_114 (wk_cv3 r3_115 kc_174_150 rfl (m150_174_f609 _ M143 (609 + (p2 + 1)) 1 hP144 (by omega) (by omega) (by decide) (by decide)) (cqI ?_))))))))))
        rintro v151 M147 ⟨hP148, hQ149, h152, h153⟩
        have hF150 : Fr fm_m3_607v35 M0 M147 := hF146.tr hQ149 rfl
        refine wk_ifne r3_118 ⟨by omega, by omega⟩ ?_ ?_
        · intro h154
          refine wk_inc8 r3_156 rfl (wk_goto r3_159 ?_)
          exact wp_fg (le_s (le_s (le_s (le_s (le_s (le_s (le_s (le_s (le_s le_0))))))))) (ih177 (2 - (v123 + 1)).toNat (by omega) M147 v120 (v123 + 1) rfl hP148 hF150 ((hQ149.at g_607_5 rfl).trans ((hQ145.at g_607_5 rfl).trans e129)) (by omega) (by omega) (by omega) (by omega) (by omega))
        · intro h155
          refine wk_al4 r3_121 (wk_il5 r3_123 (wk_cv2 r3_125 kc_176_200 rfl (m200_176 _ M147 (v1 / 30) hP148 (by omega) (by omega)) (cqV ?_)))
          rintro M156 ⟨hP157, hQ158⟩
          have hF159 : Fr fm_m3_607v35 M0 M156 := hF150.tr hQ158 rfl
          refine wk_al0 r3_128 (wk_il2 r3_129 (wk_c1 r3_130 (wk_iadd r3_131 (wk_il3 r3_132 (wk_c1 r3_133 (wk_isub r3_134 (wk_cv3 r3_135 kc_607_2 rfl (m2_607v7 _ M156 (p2 + 1) (p3 - 1) hP157 (by omega) (by omega) (by omega) (by omega)) (cqI ?_))))))))
          rintro v164 M160 ⟨hP161, hQ162, h165, h166⟩
          have hF163 : Fr fm_m3_607v35 M0 M160 := hF159.tr hQ162 rfl
          refine wk_c1 r3_138 ?_
          refine wk_iceq r3_139 ⟨by omega, by omega⟩ (by decide) ?_ ?_
          · intro h167
            refine wk_c1 r3_146 (wk_is7 r3_147 rfl (wk_al4 r3_149 (wk_il5 r3_151 (wk_cv2 r3_153 kc_176_200 rfl (m200_176 _ M160 (v1 / 30) hP161 (by omega) (by omega)) (cqV ?_)))))
            rintro M168 ⟨hP169, hQ170⟩
            have hF171 : Fr fm_m3_607v35 M0 M168 := hF163.tr hQ170 rfl
            refine wk_inc8 r3_156 rfl (wk_goto r3_159 ?_)
            exact wp_fg (le_s (le_s (le_s (le_s (le_s (le_s (le_s (le_s (le_s le_0))))))))) (ih177 (2 - (v123 + 1)).toNat (by omega) M168 0 (v123 + 1) rfl hP169 hF171 ((hQ170.at g_607_5 rfl).trans ((hQ162.at g_607_5 rfl).trans ((hQ158.at g_607_5 rfl).trans ((hQ149.at g_607_5 rfl).trans ((hQ145.at g_607_5 rfl).trans e129))))) (by omega) (by omega) (by omega) (by omega) (by omega))
          · intro h172
            refine wk_c1 r3_142 (wk_goto r3_143 (wk_is7 r3_147 rfl (wk_al4 r3_149 (wk_il5 r3_151 (wk_cv2 r3_153 kc_176_200 rfl (m200_176 _ M160 (v1 / 30) hP161 (by omega) (by omega)) (cqV ?_))))))
            rintro M173 ⟨hP174, hQ175⟩
            have hF176 : Fr fm_m3_607v35 M0 M173 := hF163.tr hQ175 rfl
            refine wk_inc8 r3_156 rfl (wk_goto r3_159 ?_)
            exact wp_fg (le_s (le_s (le_s (le_s (le_s (le_s (le_s (le_s (le_s le_0))))))))) (ih177 (2 - (v123 + 1)).toNat (by omega) M173 1 (v123 + 1) rfl hP174 hF176 ((hQ175.at g_607_5 rfl).trans ((hQ162.at g_607_5 rfl).trans ((hQ158.at g_607_5 rfl).trans ((hQ149.at g_607_5 rfl).trans ((hQ145.at g_607_5 rfl).trans e129))))) (by omega) (by omega) (by omega) (by omega) (by omega))
  exact wp_fg (le_s (le_n (le_s (le_s (le_s (le_s (le_s (le_s (le_s le_0))))))))) (c64_177 _ M13 1 0 rfl hP14 hF16 ((hQ15.at g_607_5 rfl).trans e7) (by omega) (by omega) (by omega) (by omega) (by omega))
