/-! ===== written by program (wip/layer4) ===== -/
def fm_m8129v21 : Nat := 0
/-- IslandHallModel.spelled -/
theorem m8129v21 {B : eB} (d : Nat) (M0 : Mm) (p0 : Int) (p1 : Int) (p2 : Int) (p3 : Int) (p4 : Int) (p5 : Int) (hP0 : Pw M0) (l0 : 119 ≤ p0) (u0 : p0 ≤ 119) (l1 : 111 ≤ p1) (u1 : p1 ≤ 111) (l2 : 114 ≤ p2) (u2 : p2 ≤ 114) (l3 : 100 ≤ p3) (u3 : p3 ≤ 100) (l4 : 0 ≤ p4) (u4 : p4 ≤ 0) (l5 : 0 ≤ p5) (u5 : p5 ≤ 0) : Ct B (d + 1) 129 [I p0, I p1, I p2, I p3, I p4, I p5] M0 (qL fun z M => Pw M ∧ Fr fm_m8129v21 M0 M ∧ z < 18446744073709551616 ∧ 769604 ≤ z ∧ z ≤ 769604) := by
  refine ct_of (d := d + 0) (k := 2) (L := [some (I p0), some (I p1), some (I p2), some (I p3), some (I p4), some (I p5), none, none]) rfl rfl rfl ?_
  have hF0 := Fr.rf fm_m8129v21 M0
  generalize hQ : (qL fun z M => Pw M ∧ Fr fm_m8129v21 M0 M ∧ z < 18446744073709551616 ∧ 769604 ≤ z ∧ z ≤ 769604) = Q
  refine wk_il0 r129_0 (wk_c2 r129_1 (wk_isub r129_3 (wk_i2lb r129_4 ⟨by omega, by omega⟩ ?_)))
  intro n1 h2 h3
  refine wk_ls6 r129_5 rfl (wk_il1 r129_7 ?_)
  refine wk_ifeq r129_8 ⟨by omega, by omega⟩ ?_ ?_
  · intro h4
    exfalso
    omega
  · intro h5
    refine wk_ll6 r129_11 (wk_c1 r129_13 (wk_lshl5 r129_14 (by omega) ?_))
    intro n6 h7
    refine wk_il1 r129_15 (wk_c2 r129_16 (wk_isub r129_18 (wk_i2lb r129_19 ⟨by omega, by omega⟩ ?_)))
    intro n8 h9 h10
    refine wk_lor5 r129_20 (by omega) (by omega) (by omega) ?_
    intro n11 h12
    refine wk_ls6 r129_21 rfl (wk_il2 r129_23 ?_)
    refine wk_ifeq r129_24 ⟨by omega, by omega⟩ ?_ ?_
    · intro h13
      exfalso
      omega
    · intro h14
      refine wk_ll6 r129_27 (wk_c1 r129_29 (wk_lshl5 r129_30 (by omega) ?_))
      intro n15 h16
      refine wk_il2 r129_31 (wk_c2 r129_32 (wk_isub r129_34 (wk_i2lb r129_35 ⟨by omega, by omega⟩ ?_)))
      intro n17 h18 h19
      refine wk_lor5 r129_36 (by omega) (by omega) (by omega) ?_
      intro n20 h21
      refine wk_ls6 r129_37 rfl (wk_il3 r129_39 ?_)
      refine wk_ifeq r129_40 ⟨by omega, by omega⟩ ?_ ?_
      · intro h22
        exfalso
        omega
      · intro h23
        refine wk_ll6 r129_43 (wk_c1 r129_45 (wk_lshl5 r129_46 (by omega) ?_))
        intro n24 h25
        refine wk_il3 r129_47 (wk_c2 r129_48 (wk_isub r129_50 (wk_i2lb r129_51 ⟨by omega, by omega⟩ ?_)))
        intro n26 h27 h28
        refine wk_lor5 r129_52 (by omega) (by omega) (by omega) ?_
        intro n29 h30
        refine wk_ls6 r129_53 rfl (wk_il4 r129_55 ?_)
        refine wk_ifeq r129_57 ⟨by omega, by omega⟩ ?_ ?_
        · intro h31
          refine wk_il5 r129_73 ?_
          refine wk_ifeq r129_75 ⟨by omega, by omega⟩ ?_ ?_
          · intro h32
            refine wk_ll6 r129_91 ?_
            subst hQ; exact wk_lret r129_93 (⟨rfl, _, rfl, hP0, hF0, by omega, by omega, by omega⟩)
          · intro h33
            exfalso
            omega
        · intro h34
          exfalso
          omega
def fm_m8104v6 : Nat := 0
/-- IslandHallModel.letters -/
theorem m8104v6 {B : eB} (d : Nat) (M0 : Mm) (p0 : Int) (hP0 : Pw M0) (l0 : 0 ≤ p0) (u0 : p0 ≤ 21) : Ct B (d + 2) 104 [I p0] M0 (qL fun z M => Pw M ∧ Fr fm_m8104v6 M0 M ∧ z < 18446744073709551616 ∧ 51 ≤ z ∧ z ≤ 693713074 ∧ (((z : Nat) : Int) = kwL.getD p0.toNat 0)) := by
  refine ct_of (d := d + 1) (k := 0) (L := [some (I p0)]) rfl rfl rfl ?_
  have hF0 := Fr.rf fm_m8104v6 M0
  generalize hQ : (qL fun z M => Pw M ∧ Fr fm_m8104v6 M0 M ∧ z < 18446744073709551616 ∧ 51 ≤ z ∧ z ≤ 693713074 ∧ (((z : Nat) : Int) = kwL.getD p0.toNat 0)) = Q
  refine wk_il0 r104_0 ?_
  refine wk_sw6 r104_1 ⟨by omega, by omega⟩ ?_ ?_ ?_ ?_ ?_ ?_ ?_ ?_ ?_ ?_ ?_ ?_ ?_ ?_ ?_ ?_ ?_ ?_ ?_ ?_ ?_ ?_
  · intro h1
    refine wk_c2 r104_393 (wk_c2 r104_395 (wk_c2 r104_397 (wk_c2 r104_399 (wk_c1 r104_401 (wk_c1 r104_402 (wk_cs102_6 r104_403 rfl (m8129v8 _ M0 116 111 108 100 0 0 hP0 (by decide) (by decide) (by decide) (by decide) (by decide) (by decide) (by decide) (by decide) (by decide) (by decide) (by decide) (by decide)) (cqL ?_)))))))
    rintro n6 M2 ⟨hP3, hQ4, h9, h7, h8⟩
    obtain rfl := Fr.same hQ4
    subst hQ; exact wk_lret r104_406 (⟨rfl, _, rfl, hP0, hF0, by omega, by omega, by omega, by rw [show p0 = 21 by omega]; show _ = (671108 : Int); omega⟩)
  · intro h10
    refine wk_c2 r104_100 (wk_c2 r104_102 (wk_c2 r104_104 (wk_c2 r104_106 (wk_c2 r104_108 (wk_c2 r104_110 (wk_cs102_6 r104_112 rfl (m8129 _ M0 104 111 110 101 115 116 hP0 (by decide) (by decide) (by decide) (by decide) (by decide) (by decide) (by decide) (by decide) (by decide) (by decide) (by decide) (by decide)) (cqL ?_)))))))
    rintro n15 M11 ⟨hP12, hQ13, h18, h16, h17⟩
    obtain rfl := Fr.same hQ13
    subst hQ; exact wk_lret r104_115 (⟨rfl, _, rfl, hP0, hF0, by omega, by omega, by omega, by rw [show p0 = 0 by omega]; show _ = (284628596 : Int); omega⟩)
  · intro h19
    refine wk_c2 r104_116 (wk_c2 r104_118 (wk_c2 r104_120 (wk_c2 r104_122 (wk_c1 r104_124 (wk_c1 r104_125 (wk_cs102_6 r104_126 rfl (m8129v1 _ M0 108 105 97 114 0 0 hP0 (by decide) (by decide) (by decide) (by decide) (by decide) (by decide) (by decide) (by decide) (by decide) (by decide) (by decide) (by decide)) (cqL ?_)))))))
    rintro n24 M20 ⟨hP21, hQ22, h27, h25, h26⟩
    obtain rfl := Fr.same hQ22
    subst hQ; exact wk_lret r104_129 (⟨rfl, _, rfl, hP0, hF0, by omega, by omega, by omega, by rw [show p0 = 1 by omega]; show _ = (402482 : Int); omega⟩)
  · intro h28
    refine wk_c2 r104_130 (wk_c2 r104_132 (wk_c2 r104_134 (wk_c2 r104_136 (wk_c2 r104_138 (wk_c2 r104_140 (wk_cs102_6 r104_142 rfl (m8129v2 _ M0 116 117 114 110 101 114 hP0 (by decide) (by decide) (by decide) (by decide) (by decide) (by decide) (by decide) (by decide) (by decide) (by decide) (by decide) (by decide)) (cqL ?_)))))))
    rintro n33 M29 ⟨hP30, hQ31, h36, h34, h35⟩
    obtain rfl := Fr.same hQ31
    subst hQ; exact wk_lret r104_145 (⟨rfl, _, rfl, hP0, hF0, by omega, by omega, by omega, by rw [show p0 = 2 by omega]; show _ = (693713074 : Int); omega⟩)
  · intro h37
    refine wk_c2 r104_146 (wk_c2 r104_148 (wk_c2 r104_150 (wk_c2 r104_152 (wk_c2 r104_154 (wk_c1 r104_156 (wk_cs102_6 r104_157 rfl (m8129v3 _ M0 100 97 121 101 114 0 hP0 (by decide) (by decide) (by decide) (by decide) (by decide) (by decide) (by decide) (by decide) (by decide) (by decide) (by decide) (by decide)) (cqL ?_)))))))
    rintro n42 M38 ⟨hP39, hQ40, h45, h43, h44⟩
    obtain rfl := Fr.same hQ40
    subst hQ; exact wk_lret r104_160 (⟨rfl, _, rfl, hP0, hF0, by omega, by omega, by omega, by rw [show p0 = 3 by omega]; show _ = (4252850 : Int); omega⟩)
  · intro h46
    refine wk_c2 r104_161 (wk_c2 r104_163 (wk_c2 r104_165 (wk_c2 r104_167 (wk_c1 r104_169 (wk_c1 r104_170 (wk_cs102_6 r104_171 rfl (m8129v4 _ M0 102 114 101 101 0 0 hP0 (by decide) (by decide) (by decide) (by decide) (by decide) (by decide) (by decide) (by decide) (by decide) (by decide) (by decide) (by decide)) (cqL ?_)))))))
    rintro n51 M47 ⟨hP48, hQ49, h54, h52, h53⟩
    obtain rfl := Fr.same hQ49
    subst hQ; exact wk_lret r104_174 (⟨rfl, _, rfl, hP0, hF0, by omega, by omega, by omega, by rw [show p0 = 4 by omega]; show _ = (215205 : Int); omega⟩)
  · intro h55
    refine wk_c2 r104_175 (wk_c2 r104_177 (wk_c2 r104_179 (wk_c2 r104_181 (wk_c2 r104_183 (wk_c2 r104_185 (wk_cs102_6 r104_187 rfl (m8129v5 _ M0 112 101 111 112 108 101 hP0 (by decide) (by decide) (by decide) (by decide) (by decide) (by decide) (by decide) (by decide) (by decide) (by decide) (by decide) (by decide)) (cqL ?_)))))))
    rintro n60 M56 ⟨hP57, hQ58, h63, h61, h62⟩
    obtain rfl := Fr.same hQ58
    subst hQ; exact wk_lret r104_190 (⟨rfl, _, rfl, hP0, hF0, by omega, by omega, by omega, by rw [show p0 = 5 by omega]; show _ = (542622085 : Int); omega⟩)
  · intro h64
    refine wk_c2 r104_191 (wk_c2 r104_193 (wk_c2 r104_195 (wk_c1 r104_197 (wk_c1 r104_198 (wk_c1 r104_199 (wk_cs102_6 r104_200 rfl (m8129v6 _ M0 109 97 121 0 0 0 hP0 (by decide) (by decide) (by decide) (by decide) (by decide) (by decide) (by decide) (by decide) (by decide) (by decide) (by decide) (by decide)) (cqL ?_)))))))
    rintro n69 M65 ⟨hP66, hQ67, h72, h70, h71⟩
    obtain rfl := Fr.same hQ67
    subst hQ; exact wk_lret r104_203 (⟨rfl, _, rfl, hP0, hF0, by omega, by omega, by omega, by rw [show p0 = 6 by omega]; show _ = (13369 : Int); omega⟩)
  · intro h73
    refine wk_c2 r104_204 (wk_c2 r104_206 (wk_c2 r104_208 (wk_c2 r104_210 (wk_c2 r104_212 (wk_c1 r104_214 (wk_cs102_6 r104_215 rfl (m8129v7 _ M0 114 111 97 100 115 0 hP0 (by decide) (by decide) (by decide) (by decide) (by decide) (by decide) (by decide) (by decide) (by decide) (by decide) (by decide) (by decide)) (cqL ?_)))))))
    rintro n78 M74 ⟨hP75, hQ76, h81, h79, h80⟩
    obtain rfl := Fr.same hQ76
    subst hQ; exact wk_lret r104_218 (⟨rfl, _, rfl, hP0, hF0, by omega, by omega, by omega, by rw [show p0 = 7 by omega]; show _ = (19367059 : Int); omega⟩)
  · intro h82
    refine wk_c2 r104_219 (wk_c2 r104_221 (wk_c2 r104_223 (wk_c1 r104_225 (wk_c1 r104_226 (wk_c1 r104_227 (wk_cs102_6 r104_228 rfl (m8129v9 _ M0 100 97 121 0 0 0 hP0 (by decide) (by decide) (by decide) (by decide) (by decide) (by decide) (by decide) (by decide) (by decide) (by decide) (by decide) (by decide)) (cqL ?_)))))))
    rintro n87 M83 ⟨hP84, hQ85, h90, h88, h89⟩
    obtain rfl := Fr.same hQ85
    subst hQ; exact wk_lret r104_231 (⟨rfl, _, rfl, hP0, hF0, by omega, by omega, by omega, by rw [show p0 = 8 by omega]; show _ = (4153 : Int); omega⟩)
  · intro h91
    refine wk_c2 r104_232 (wk_c2 r104_234 (wk_c2 r104_236 (wk_c2 r104_238 (wk_c1 r104_240 (wk_c1 r104_241 (wk_cs102_6 r104_242 rfl (m8129v10 _ M0 108 105 101 115 0 0 hP0 (by decide) (by decide) (by decide) (by decide) (by decide) (by decide) (by decide) (by decide) (by decide) (by decide) (by decide) (by decide)) (cqL ?_)))))))
    rintro n96 M92 ⟨hP93, hQ94, h99, h97, h98⟩
    obtain rfl := Fr.same hQ94
    subst hQ; exact wk_lret r104_245 (⟨rfl, _, rfl, hP0, hF0, by omega, by omega, by omega, by rw [show p0 = 9 by omega]; show _ = (402611 : Int); omega⟩)
  · intro h100
    refine wk_c2 r104_246 (wk_c2 r104_248 (wk_c2 r104_250 (wk_c2 r104_252 (wk_c2 r104_254 (wk_c1 r104_256 (wk_cs102_6 r104_257 rfl (m8129v11 _ M0 119 111 114 100 115 0 hP0 (by decide) (by decide) (by decide) (by decide) (by decide) (by decide) (by decide) (by decide) (by decide) (by decide) (by decide) (by decide)) (cqL ?_)))))))
    rintro n105 M101 ⟨hP102, hQ103, h108, h106, h107⟩
    obtain rfl := Fr.same hQ103
    subst hQ; exact wk_lret r104_260 (⟨rfl, _, rfl, hP0, hF0, by omega, by omega, by omega, by rw [show p0 = 10 by omega]; show _ = (24627347 : Int); omega⟩)
  · intro h109
    refine wk_c2 r104_261 (wk_c2 r104_263 (wk_c2 r104_265 (wk_c2 r104_267 (wk_c1 r104_269 (wk_c1 r104_270 (wk_cs102_6 r104_271 rfl (m8129v12 _ M0 102 97 99 116 0 0 hP0 (by decide) (by decide) (by decide) (by decide) (by decide) (by decide) (by decide) (by decide) (by decide) (by decide) (by decide) (by decide)) (cqL ?_)))))))
    rintro n114 M110 ⟨hP111, hQ112, h117, h115, h116⟩
    obtain rfl := Fr.same hQ112
    subst hQ; exact wk_lret r104_274 (⟨rfl, _, rfl, hP0, hF0, by omega, by omega, by omega, by rw [show p0 = 11 by omega]; show _ = (197748 : Int); omega⟩)
  · intro h118
    refine wk_c2 r104_275 (wk_c2 r104_277 (wk_c2 r104_279 (wk_c1 r104_281 (wk_c1 r104_282 (wk_c1 r104_283 (wk_cs102_6 r104_284 rfl (m8129v13 _ M0 97 110 100 0 0 0 hP0 (by decide) (by decide) (by decide) (by decide) (by decide) (by decide) (by decide) (by decide) (by decide) (by decide) (by decide) (by decide)) (cqL ?_)))))))
    rintro n123 M119 ⟨hP120, hQ121, h126, h124, h125⟩
    obtain rfl := Fr.same hQ121
    subst hQ; exact wk_lret r104_287 (⟨rfl, _, rfl, hP0, hF0, by omega, by omega, by omega, by rw [show p0 = 12 by omega]; show _ = (1476 : Int); omega⟩)
  · intro h127
    refine wk_c2 r104_288 (wk_c2 r104_290 (wk_c1 r104_292 (wk_c1 r104_293 (wk_c1 r104_294 (wk_c1 r104_295 (wk_cs102_6 r104_296 rfl (m8129v14 _ M0 111 114 0 0 0 0 hP0 (by decide) (by decide) (by decide) (by decide) (by decide) (by decide) (by decide) (by decide) (by decide) (by decide) (by decide) (by decide)) (cqL ?_)))))))
    rintro n132 M128 ⟨hP129, hQ130, h135, h133, h134⟩
    obtain rfl := Fr.same hQ130
    subst hQ; exact wk_lret r104_299 (⟨rfl, _, rfl, hP0, hF0, by omega, by omega, by omega, by rw [show p0 = 13 by omega]; show _ = (498 : Int); omega⟩)
  · intro h136
    refine wk_c2 r104_300 (wk_c2 r104_302 (wk_c2 r104_304 (wk_c1 r104_306 (wk_c1 r104_307 (wk_c1 r104_308 (wk_cs102_6 r104_309 rfl (m8129v15 _ M0 110 111 116 0 0 0 hP0 (by decide) (by decide) (by decide) (by decide) (by decide) (by decide) (by decide) (by decide) (by decide) (by decide) (by decide) (by decide)) (cqL ?_)))))))
    rintro n141 M137 ⟨hP138, hQ139, h144, h142, h143⟩
    obtain rfl := Fr.same hQ139
    subst hQ; exact wk_lret r104_312 (⟨rfl, _, rfl, hP0, hF0, by omega, by omega, by omega, by rw [show p0 = 14 by omega]; show _ = (14836 : Int); omega⟩)
  · intro h145
    refine wk_c2 r104_313 (wk_c2 r104_315 (wk_c1 r104_317 (wk_c1 r104_318 (wk_c1 r104_319 (wk_c1 r104_320 (wk_cs102_6 r104_321 rfl (m8129v16 _ M0 105 115 0 0 0 0 hP0 (by decide) (by decide) (by decide) (by decide) (by decide) (by decide) (by decide) (by decide) (by decide) (by decide) (by decide) (by decide)) (cqL ?_)))))))
    rintro n150 M146 ⟨hP147, hQ148, h153, h151, h152⟩
    obtain rfl := Fr.same hQ148
    subst hQ; exact wk_lret r104_324 (⟨rfl, _, rfl, hP0, hF0, by omega, by omega, by omega, by rw [show p0 = 15 by omega]; show _ = (307 : Int); omega⟩)
  · intro h154
    refine wk_c2 r104_325 (wk_c2 r104_327 (wk_c1 r104_329 (wk_c1 r104_330 (wk_c1 r104_331 (wk_c1 r104_332 (wk_cs102_6 r104_333 rfl (m8129v17 _ M0 97 115 0 0 0 0 hP0 (by decide) (by decide) (by decide) (by decide) (by decide) (by decide) (by decide) (by decide) (by decide) (by decide) (by decide) (by decide)) (cqL ?_)))))))
    rintro n159 M155 ⟨hP156, hQ157, h162, h160, h161⟩
    obtain rfl := Fr.same hQ157
    subst hQ; exact wk_lret r104_336 (⟨rfl, _, rfl, hP0, hF0, by omega, by omega, by omega, by rw [show p0 = 16 by omega]; show _ = (51 : Int); omega⟩)
  · intro h163
    refine wk_c2 r104_337 (wk_c2 r104_339 (wk_c2 r104_341 (wk_c2 r104_343 (wk_c1 r104_345 (wk_c1 r104_346 (wk_cs102_6 r104_347 rfl (m8129v18 _ M0 115 97 121 115 0 0 hP0 (by decide) (by decide) (by decide) (by decide) (by decide) (by decide) (by decide) (by decide) (by decide) (by decide) (by decide) (by decide)) (cqL ?_)))))))
    rintro n168 M164 ⟨hP165, hQ166, h171, h169, h170⟩
    obtain rfl := Fr.same hQ166
    subst hQ; exact wk_lret r104_350 (⟨rfl, _, rfl, hP0, hF0, by omega, by omega, by omega, by rw [show p0 = 17 by omega]; show _ = (624435 : Int); omega⟩)
  · intro h172
    refine wk_c2 r104_351 (wk_c2 r104_353 (wk_c2 r104_355 (wk_c2 r104_357 (wk_c1 r104_359 (wk_c1 r104_360 (wk_cs102_6 r104_361 rfl (m8129v19 _ M0 114 111 97 100 0 0 hP0 (by decide) (by decide) (by decide) (by decide) (by decide) (by decide) (by decide) (by decide) (by decide) (by decide) (by decide) (by decide)) (cqL ?_)))))))
    rintro n177 M173 ⟨hP174, hQ175, h180, h178, h179⟩
    obtain rfl := Fr.same hQ175
    subst hQ; exact wk_lret r104_364 (⟨rfl, _, rfl, hP0, hF0, by omega, by omega, by omega, by rw [show p0 = 18 by omega]; show _ = (605220 : Int); omega⟩)
  · intro h181
    refine wk_c2 r104_365 (wk_c2 r104_367 (wk_c2 r104_369 (wk_c2 r104_371 (wk_c1 r104_373 (wk_c1 r104_374 (wk_cs102_6 r104_375 rfl (m8129v20 _ M0 109 97 110 121 0 0 hP0 (by decide) (by decide) (by decide) (by decide) (by decide) (by decide) (by decide) (by decide) (by decide) (by decide) (by decide) (by decide)) (cqL ?_)))))))
    rintro n186 M182 ⟨hP183, hQ184, h189, h187, h188⟩
    obtain rfl := Fr.same hQ184
    subst hQ; exact wk_lret r104_378 (⟨rfl, _, rfl, hP0, hF0, by omega, by omega, by omega, by rw [show p0 = 19 by omega]; show _ = (427481 : Int); omega⟩)
  · intro h190
    refine wk_c2 r104_379 (wk_c2 r104_381 (wk_c2 r104_383 (wk_c2 r104_385 (wk_c1 r104_387 (wk_c1 r104_388 (wk_cs102_6 r104_389 rfl (m8129v21 _ M0 119 111 114 100 0 0 hP0 (by decide) (by decide) (by decide) (by decide) (by decide) (by decide) (by decide) (by decide) (by decide) (by decide) (by decide) (by decide)) (cqL ?_)))))))
    rintro n195 M191 ⟨hP192, hQ193, h198, h196, h197⟩
    obtain rfl := Fr.same hQ193
    subst hQ; exact wk_lret r104_392 (⟨rfl, _, rfl, hP0, hF0, by omega, by omega, by omega, by rw [show p0 = 20 by omega]; show _ = (769604 : Int); omega⟩)
def fm_m8097_739 : Nat := 0
/-- IslandHallModel.knownWord -/
theorem m8097_739 {B : eB} (d : Nat) (M0 : Mm) (x739_32 : Int) (x739_34 : Int) (x739_30 : Int) (x739_33 : Int) (T : Int → Int) (hP0 : Pw M0) (ex739_32 : M0 739 32 = x739_32) (lx739_32 : 0 ≤ x739_32) (ux739_32 : x739_32 ≤ 4) (ex739_34 : M0 739 34 = x739_34) (lx739_34 : 0 ≤ x739_34) (ux739_34 : x739_34 ≤ 500) (ex739_30 : M0 739 30 = x739_30) (lx739_30 : 0 ≤ x739_30) (ux739_30 : x739_30 ≤ 500) (ex739_33 : M0 739 33 = x739_33) (lx739_33 : 0 ≤ x739_33) (ux739_33 : x739_33 ≤ 500) (pp_TK : TK M0) (pp_TT : TTP T M0) : Ct B (d + 3) 97 [R 739] M0 (qI fun z M => Pw M ∧ Fr fm_m8097_739 M0 M ∧ (-1) ≤ z ∧ z ≤ 21 ∧ 0 ≤ 11 * (M 739 34) + (-1) * z + (-1) ∧ (z = kw T x739_30 x739_33)) := by
  refine ct_of (d := d + 2) (k := 1) (L := [some (R 739), none]) rfl rfl rfl ?_
  have hF0 := Fr.rf fm_m8097_739 M0
  generalize hQ : (qI fun z M => Pw M ∧ Fr fm_m8097_739 M0 M ∧ (-1) ≤ z ∧ z ≤ 21 ∧ 0 ≤ 11 * (M 739 34) + (-1) * z + (-1) ∧ (z = kw T x739_30 x739_33)) = Q
  have hTT := pp_TT
  unfold TTP at hTT
  rw [ex739_30, ex739_33] at hTT
  have hlt := tt_lt T x739_30 x739_33
  refine wk_al0 r97_0 (wk_getfi r97_1 fd_739_32 ex739_32 (wk_c1 r97_4 ?_))
  refine wk_icne r97_5 ⟨by omega, by omega⟩ (by decide) ?_ ?_
  · intro h1
    refine wk_c1 r97_17 ?_
    subst hQ; exact wk_iret r97_18 (⟨rfl, _, rfl, hP0, hF0, by omega, by omega, by have := ex739_34; omega, kw_no (by omega)⟩)
  · intro h2
    refine wk_al0 r97_8 (wk_getfi r97_9 fd_739_34 ex739_34 (wk_c2 r97_12 ?_))
    refine wk_icle r97_14 ⟨by omega, by omega⟩ (by decide) ?_ ?_
    · intro h3
      have hw9 := TT_w pp_TT ex739_33 ex739_34 (ex739_32.trans (by omega)) (by omega)
      refine wk_c1 r97_19 (wk_is1 r97_20 rfl ?_)
      have c21_252 : ∀ (k252 : Nat) (v221 : Int), (22 - v221).toNat = k252 → 0 ≤ v221 → v221 ≤ 22 → (∀ j : Nat, (j : Int) < v221 → kwL.getD j 0 ≠ wc T x739_33 (x739_34).toNat) → Wp B (d + 2) 97 21 [some (R 739), some (I v221)] [] M0 Q := by
        refine lp_ind ?_
        intro k252 ih252 v221 hk252 h222 h223 ti224
        refine wk_il1 r97_21 (wk_c2 r97_22 ?_)
        refine wk_icge r97_24 ⟨by omega, by omega⟩ (by decide) ?_ ?_
        · intro h225
          refine wk_c1 r97_47 ?_
          subst hQ; exact wk_iret r97_48 (⟨rfl, _, rfl, hP0, hF0, by omega, by omega, by have := ex739_34; omega, kw_mis (l := x739_34) (by omega) (by omega) (by omega) (fun j q => ti224 j (by omega))⟩)
        · intro h226
          refine wk_il1 r97_27 (wk_cs102_1 r97_28 rfl (m8104v6 _ M0 v221 hP0 (by first | with_reducible assumption | omega) (by first | with_reducible assumption | omega)) (cqL ?_))
          rintro n232 M227 ⟨hP228, hQ229, h235, h233, h234, xh231⟩
          obtain rfl := Fr.same hQ229
          refine wk_al0 r97_31 ?_
          refine wk_getfe r97_32 fd_739_37 (bf_739_37 hP0) ?_ (by decide)
          intro n236 h239 h240 e237
          have e238 : M0 739 37 = (n236 : Int) := by have := (bf_739_37 hP0); omega
          refine wk_lcmp r97_35 (by omega) (by omega) ?_ ?_
          · intro h241
            refine wk_ifne r97_36 (by decide) ?_ ?_
            · intro h247
              exfalso
              omega
            · intro h248
              have h249 : 2 ≤ x739_34 := by have q := pp_TK; unfold TK at q; omega
              refine wk_il1 r97_39 ?_
              subst hQ; exact wk_iret r97_40 (⟨rfl, _, rfl, hP0, hF0, by omega, by omega, by have := ex739_34; omega, kw_hit (l := x739_34) (by omega) (by omega) (by omega) (by omega) (by have := xh231; omega)⟩)
          · intro h242 v246 h243 h244 h245
            refine wk_ifne r97_36 ⟨by omega, by omega⟩ ?_ ?_
            · intro h250
              refine wk_inc1 r97_41 rfl (wk_goto r97_44 ?_)
              exact wp_fg (le_s (le_s le_0)) (ih252 (22 - (v221 + 1)).toNat (by omega) (v221 + 1) rfl (by first | with_reducible assumption | omega) (by first | with_reducible assumption | omega) (fun j q => by by_cases q7 : (j : Int) = v221; (have q6 := xh231; rw [← q7, Int.toNat_natCast] at q6; omega); (exact ti224 j (by omega))))
            · intro h251
              exfalso
              omega
      exact wp_fg (le_s (le_s le_0)) (c21_252 _ 0 rfl (by first | with_reducible assumption | omega) (by first | with_reducible assumption | omega) (fun j q => by omega))
    · intro h253
      refine wk_c1 r97_17 ?_
      subst hQ; exact wk_iret r97_18 (⟨rfl, _, rfl, hP0, hF0, by omega, by omega, by have := ex739_34; omega, kw_no (by omega)⟩)
def fm_m8086_739 : Nat := 0
/-- IslandHallModel.isName -/
theorem m8086_739 {B : eB} (d : Nat) (M0 : Mm) (x739_32 : Int) (x739_34 : Int) (x739_30 : Int) (x739_33 : Int) (T : Int → Int) (hP0 : Pw M0) (ex739_32 : M0 739 32 = x739_32) (lx739_32 : 0 ≤ x739_32) (ux739_32 : x739_32 ≤ 4) (ex739_34 : M0 739 34 = x739_34) (lx739_34 : 0 ≤ x739_34) (ux739_34 : x739_34 ≤ 500) (ex739_30 : M0 739 30 = x739_30) (lx739_30 : 0 ≤ x739_30) (ux739_30 : x739_30 ≤ 500) (ex739_33 : M0 739 33 = x739_33) (lx739_33 : 0 ≤ x739_33) (ux739_33 : x739_33 ≤ 500) (pp_TT : TTP T M0) : Ct B (d + 1) 86 [R 739] M0 (qI fun z M => Pw M ∧ Fr fm_m8086_739 M0 M ∧ 0 ≤ z ∧ z ≤ 1 ∧ (z = 1 → 0 ≤ M 739 34 + (-1)) ∧ (z = 1 → 0 ≤ (-1) * (M 739 34) + 1) ∧ (z = 1 → 0 ≤ M 739 32 + (-1)) ∧ (z = 1 → 0 ≤ (-1) * (M 739 32) + 1) ∧ (z = nmI T x739_30 x739_33)) := by
  refine ct_of (d := d + 0) (k := 0) (L := [some (R 739)]) rfl rfl rfl ?_
  have hF0 := Fr.rf fm_m8086_739 M0
  generalize hQ : (qI fun z M => Pw M ∧ Fr fm_m8086_739 M0 M ∧ 0 ≤ z ∧ z ≤ 1 ∧ (z = 1 → 0 ≤ M 739 34 + (-1)) ∧ (z = 1 → 0 ≤ (-1) * (M 739 34) + 1) ∧ (z = 1 → 0 ≤ M 739 32 + (-1)) ∧ (z = 1 → 0 ≤ (-1) * (M 739 32) + 1) ∧ (z = nmI T x739_30 x739_33)) = Q
  have hTT := pp_TT
  unfold TTP at hTT
  rw [ex739_30, ex739_33] at hTT
  have hlt := tt_lt T x739_30 x739_33
  refine wk_al0 r86_0 (wk_getfi r86_1 fd_739_32 ex739_32 (wk_c1 r86_4 ?_))
  refine wk_icne r86_5 ⟨by omega, by omega⟩ (by decide) ?_ ?_
  · intro h1
    refine wk_c1 r86_20 ?_
    subst hQ; exact wk_zret r86_21 (by decide) (⟨rfl, _, rfl, hP0, hF0, by omega, by omega, by omega, by omega, by omega, by omega, by have := nmI_c T x739_30 x739_33; omega⟩)
  · intro h2
    refine wk_al0 r86_8 (wk_getfi r86_9 fd_739_34 ex739_34 (wk_c1 r86_12 ?_))
    refine wk_icne r86_13 ⟨by omega, by omega⟩ (by decide) ?_ ?_
    · intro h3
      refine wk_c1 r86_20 ?_
      subst hQ; exact wk_zret r86_21 (by decide) (⟨rfl, _, rfl, hP0, hF0, by omega, by omega, by omega, by omega, by omega, by omega, by have := nmI_c T x739_30 x739_33; omega⟩)
    · intro h4
      refine wk_c1 r86_16 (wk_goto r86_17 ?_)
      subst hQ; exact wk_zret r86_21 (by decide) (⟨rfl, _, rfl, hP0, hF0, by omega, by omega, by have := ex739_34; omega, by have := ex739_34; omega, by have := ex739_32; omega, by have := ex739_32; omega, by have := nmI_c T x739_30 x739_33; omega⟩)
def fm_m8137_739 : Nat := 9415652603080021145753684134811499624153533166696051769344
/-- IslandHallModel.wrong -/
theorem m8137_739 {B : eB} (d : Nat) (M0 : Mm) (p1 : Int) (x739_28 : Int) (x739_33 : Int) (x739_29 : Int) (hP0 : Pw M0) (l1 : 1 ≤ p1) (u1 : p1 ≤ 6) (ex739_28 : M0 739 28 = x739_28) (lx739_28 : 0 ≤ x739_28) (ux739_28 : x739_28 ≤ 6) (ex739_33 : M0 739 33 = x739_33) (lx739_33 : 0 ≤ x739_33) (ux739_33 : x739_33 ≤ 500) (ex739_29 : M0 739 29 = x739_29) (lx739_29 : (-1) ≤ x739_29) (ux739_29 : x739_29 ≤ 501) : Ct B (d + 1) 137 [R 739, I p1] M0 (qV fun M => Pw M ∧ Fr fm_m8137_739 M0 M ∧ 0 ≤ M 739 28 + (-1) ∧ 0 ≤ M 739 28 + (-1) * x739_28 ∧ 0 ≤ M 739 29 + 1 ∧ 0 ≤ M 739 29 + (-1) * x739_29 + 3000 * (M 739 28) ∧ 0 ≤ (-1) * (M 739 29) + x739_29 + 3000 * (M 739 28) ∧ ((x739_28 = 0 ∧ M 739 28 = p1 ∧ M 739 29 = x739_33) ∨ (x739_28 ≠ 0 ∧ M 739 28 = x739_28 ∧ M 739 29 = x739_29))) := by
  refine ct_of (d := d + 0) (k := 0) (L := [some (R 739), some (I p1)]) rfl rfl rfl ?_
  have hF0 := Fr.rf fm_m8137_739 M0
  generalize hQ : (qV fun M => Pw M ∧ Fr fm_m8137_739 M0 M ∧ 0 ≤ M 739 28 + (-1) ∧ 0 ≤ M 739 28 + (-1) * x739_28 ∧ 0 ≤ M 739 29 + 1 ∧ 0 ≤ M 739 29 + (-1) * x739_29 + 3000 * (M 739 28) ∧ 0 ≤ (-1) * (M 739 29) + x739_29 + 3000 * (M 739 28) ∧ ((x739_28 = 0 ∧ M 739 28 = p1 ∧ M 739 29 = x739_33) ∨ (x739_28 ≠ 0 ∧ M 739 28 = x739_28 ∧ M 739 29 = x739_29))) = Q
  refine wk_al0 r137_0 (wk_getfi r137_1 fd_739_28 ex739_28 ?_)
  refine wk_ifeq r137_4 ⟨by omega, by omega⟩ ?_ ?_
  · intro h1
    refine wk_al0 r137_8 (wk_il1 r137_9 (wk_putfi81 r137_10 fd_739_28 (wk_nw g_739_28 rfl hP0 hF0 (uf_739_28 ⟨by omega, by omega⟩) ?_)))
    intro M2 hP3 hF4 e5
    refine wk_al0 r137_13 (wk_al0 r137_14 (wk_getfi r137_15 fd_739_33 (mUp_no e5 ex739_33 (Or.inr (by decide))) (wk_putfi81 r137_18 fd_739_29 (wk_nw g_739_29 rfl hP3 hF4 (uf_739_29 ⟨by omega, by omega⟩) ?_))))
    intro M6 hP7 hF8 e9
    subst hQ; exact wk_ret r137_21 (⟨rfl, hP7, hF8, by have := (mUp_no e9 (mUp_at e5) (Or.inr (by decide))); omega, by have := (mUp_no e9 (mUp_at e5) (Or.inr (by decide))); omega, by have := (mUp_at e9); omega, by have := (mUp_at e9); have := (mUp_no e9 (mUp_at e5) (Or.inr (by decide))); omega, by have := (mUp_at e9); have := (mUp_no e9 (mUp_at e5) (Or.inr (by decide))); omega, by have := (mUp_no e9 (mUp_no e5 ex739_33 (Or.inr (by decide))) (Or.inr (by decide))); have := (mUp_no e9 (mUp_at e5) (Or.inr (by decide))); have := (mUp_at e9); omega⟩)
  · intro h10
    subst hQ; exact wk_ret r137_7 (⟨rfl, hP0, hF0, by have := ex739_28; omega, by have := ex739_28; omega, by have := ex739_29; omega, by have := ex739_29; have := ex739_28; omega, by have := ex739_29; have := ex739_28; omega, by have := ex739_33; have := ex739_28; have := ex739_29; omega⟩)
def fm_m8088_739 : Nat := 0
/-- IslandHallModel.isSign -/
theorem m8088_739 {B : eB} (d : Nat) (M0 : Mm) (p1 : Int) (x739_32 : Int) (x739_36 : Int) (x739_30 : Int) (x739_33 : Int) (T : Int → Int) (hP0 : Pw M0) (l1 : 0 ≤ p1) (u1 : p1 ≤ 127) (ex739_32 : M0 739 32 = x739_32) (lx739_32 : 0 ≤ x739_32) (ux739_32 : x739_32 ≤ 4) (ex739_36 : M0 739 36 = x739_36) (lx739_36 : 0 ≤ x739_36) (ux739_36 : x739_36 ≤ 255) (ex739_30 : M0 739 30 = x739_30) (lx739_30 : 0 ≤ x739_30) (ux739_30 : x739_30 ≤ 500) (ex739_33 : M0 739 33 = x739_33) (lx739_33 : 0 ≤ x739_33) (ux739_33 : x739_33 ≤ 500) (pp_TT : TTP T M0) : Ct B (d + 1) 88 [R 739, I p1] M0 (qI fun z M => Pw M ∧ Fr fm_m8088_739 M0 M ∧ 0 ≤ z ∧ z ≤ 1 ∧ (z = 1 → 0 ≤ M 739 32 + (-3)) ∧ (z = 1 → 0 ≤ M 739 36 + (-1) * p1) ∧ (z = 1 → 0 ≤ (-1) * (M 739 36) + p1) ∧ (z = sgI T x739_30 x739_33 p1)) := by
  refine ct_of (d := d + 0) (k := 0) (L := [some (R 739), some (I p1)]) rfl rfl rfl ?_
  have hF0 := Fr.rf fm_m8088_739 M0
  generalize hQ : (qI fun z M => Pw M ∧ Fr fm_m8088_739 M0 M ∧ 0 ≤ z ∧ z ≤ 1 ∧ (z = 1 → 0 ≤ M 739 32 + (-3)) ∧ (z = 1 → 0 ≤ M 739 36 + (-1) * p1) ∧ (z = 1 → 0 ≤ (-1) * (M 739 36) + p1) ∧ (z = sgI T x739_30 x739_33 p1)) = Q
  have hTT := pp_TT
  unfold TTP at hTT
  rw [ex739_30, ex739_33] at hTT
  have hlt := tt_lt T x739_30 x739_33
  refine wk_al0 r88_0 (wk_getfi r88_1 fd_739_32 ex739_32 (wk_c1 r88_4 ?_))
  refine wk_icne r88_5 ⟨by omega, by omega⟩ (by decide) ?_ ?_
  · intro h1
    refine wk_c1 r88_20 ?_
    subst hQ; exact wk_zret r88_21 (by decide) (⟨rfl, _, rfl, hP0, hF0, by omega, by omega, by omega, by omega, by omega, by have := sgI_c T x739_30 x739_33 p1; omega⟩)
  · intro h2
    refine wk_al0 r88_8 (wk_getfi r88_9 fd_739_36 ex739_36 (wk_il1 r88_12 ?_))
    refine wk_icne r88_13 ⟨by omega, by omega⟩ ⟨by omega, by omega⟩ ?_ ?_
    · intro h3
      refine wk_c1 r88_20 ?_
      subst hQ; exact wk_zret r88_21 (by decide) (⟨rfl, _, rfl, hP0, hF0, by omega, by omega, by omega, by omega, by omega, by have := sgI_c T x739_30 x739_33 p1; omega⟩)
    · intro h4
      refine wk_c1 r88_16 (wk_goto r88_17 ?_)
      subst hQ; exact wk_zret r88_21 (by decide) (⟨rfl, _, rfl, hP0, hF0, by omega, by omega, by have := ex739_32; omega, by have := ex739_36; omega, by have := ex739_36; omega, by have := sgI_c T x739_30 x739_33 p1; omega⟩)
def fm_m8062_739 : Nat := 1645513972973809122176114936241485316482360019166746559400378368
set_option maxHeartbeats 20000000 in
/-- IslandHallModel.deeper -/
theorem m8062_739 {B : eB} (d : Nat) (M0 : Mm) (x739_30 : Int) (x739_31 : Int) (x739_33 : Int) (x739_34 : Int) (x739_32 : Int) (x739_28 : Int) (x739_45 : Int) (x739_46 : Int) (x739_47 : Int) (x739_29 : Int) (x739_38 : Int) (s0 : Int) (u0 : Int → Int) (T : Int → Int) (c0 : Cg) (hP0 : Pw M0) (ex739_30 : M0 739 30 = x739_30) (lx739_30 : 0 ≤ x739_30) (ux739_30 : x739_30 ≤ 500) (ex739_31 : M0 739 31 = x739_31) (lx739_31 : 0 ≤ x739_31) (ux739_31 : x739_31 ≤ 500) (ex739_33 : M0 739 33 = x739_33) (lx739_33 : 0 ≤ x739_33) (ux739_33 : x739_33 ≤ 500) (ex739_34 : M0 739 34 = x739_34) (lx739_34 : 0 ≤ x739_34) (ux739_34 : x739_34 ≤ 500) (ex739_32 : M0 739 32 = x739_32) (lx739_32 : 0 ≤ x739_32) (ux739_32 : x739_32 ≤ 4) (ex739_28 : M0 739 28 = x739_28) (lx739_28 : 0 ≤ x739_28) (ux739_28 : x739_28 ≤ 6) (ex739_45 : M0 739 45 = x739_45) (lx739_45 : 0 ≤ x739_45) (ux739_45 : x739_45 ≤ 1000) (ex739_46 : M0 739 46 = x739_46) (lx739_46 : 0 ≤ x739_46) (ux739_46 : x739_46 ≤ 520) (ex739_47 : M0 739 47 = x739_47) (lx739_47 : 0 ≤ x739_47) (ux739_47 : x739_47 ≤ 500) (ex739_29 : M0 739 29 = x739_29) (lx739_29 : (-1) ≤ x739_29) (ux739_29 : x739_29 ≤ 501) (ex739_38 : M0 739 38 = x739_38) (lx739_38 : 0 ≤ x739_38) (ux739_38 : x739_38 ≤ 999) (rp0 : 0 ≤ x739_30 + (-1) * x739_31) (rp1 : 0 ≤ x739_31 + (-1) * x739_33 + (-1) * x739_34) (rp2 : 0 ≤ (-1) * x739_31 + x739_33 + x739_34) (rp3 : 0 ≤ 4 * x739_34 + (-1) * x739_32) (rp4 : 0 ≤ (-2) * x739_45 + (-2) * x739_46 + 520) (rp5 : 0 ≤ (-1) * x739_47 + x739_28 + 6) (xp0 : RG T x739_30 x739_38 c0 0 x739_47 x739_33 0 x739_28 x739_29) (pp_TK : TK M0) (pp_F0 : GE M0 s0 u0 0 1) (pp_TQ : TXQ T M0) (pp_TT : TTP T M0) : Ct B (d + 4) 62 [R 739] M0 (qV fun M => Pw M ∧ Fr fm_m8062_739 M0 M ∧ 0 ≤ M 739 30 + (-1) * (M 739 31) ∧ 0 ≤ M 739 31 + (-1) * (M 739 33) + (-1) * (M 739 34) ∧ 0 ≤ (-1) * (M 739 31) + M 739 33 + M 739 34 ∧ 0 ≤ 4 * (M 739 34) + (-1) * (M 739 32) ∧ 0 ≤ M 739 33 + (-1) * x739_33 ∧ 0 ≤ M 739 28 + (-1) * x739_28 ∧ 0 ≤ (-2) * (M 739 45) + (-2) * (M 739 46) + 520 ∧ 0 ≤ (-1) * (M 739 47) + M 739 28 + 6 ∧ 0 ≤ M 739 47 + (-1) * x739_47 ∧ 0 ≤ (-1) * (M 739 47) + x739_47 + 1 ∧ 0 ≤ M 739 47 + (-1) * x739_47 + (-1) + x739_28 ∧ 0 ≤ M 739 47 + 0 ∧ 0 ≤ M 739 29 + 1 ∧ 0 ≤ M 739 29 + (-1) * x739_29 + 3000 * (M 739 28) ∧ 0 ≤ (-1) * (M 739 29) + x739_29 + 3000 * (M 739 28) ∧ (RG T x739_30 x739_38 c0 1 (M 739 47) (M 739 33) 0 (M 739 28) (M 739 29)) ∧ (TK M) ∧ (GE M s0 u0 0 0) ∧ (TXQ T M) ∧ (TTP T M)) := by
  refine ct_of (d := d + 3) (k := 2) (L := [some (R 739), none, none]) rfl rfl rfl ?_
  have hF0 := Fr.rf fm_m8062_739 M0
  generalize hQ : (qV fun M => Pw M ∧ Fr fm_m8062_739 M0 M ∧ 0 ≤ M 739 30 + (-1) * (M 739 31) ∧ 0 ≤ M 739 31 + (-1) * (M 739 33) + (-1) * (M 739 34) ∧ 0 ≤ (-1) * (M 739 31) + M 739 33 + M 739 34 ∧ 0 ≤ 4 * (M 739 34) + (-1) * (M 739 32) ∧ 0 ≤ M 739 33 + (-1) * x739_33 ∧ 0 ≤ M 739 28 + (-1) * x739_28 ∧ 0 ≤ (-2) * (M 739 45) + (-2) * (M 739 46) + 520 ∧ 0 ≤ (-1) * (M 739 47) + M 739 28 + 6 ∧ 0 ≤ M 739 47 + (-1) * x739_47 ∧ 0 ≤ (-1) * (M 739 47) + x739_47 + 1 ∧ 0 ≤ M 739 47 + (-1) * x739_47 + (-1) + x739_28 ∧ 0 ≤ M 739 47 + 0 ∧ 0 ≤ M 739 29 + 1 ∧ 0 ≤ M 739 29 + (-1) * x739_29 + 3000 * (M 739 28) ∧ 0 ≤ (-1) * (M 739 29) + x739_29 + 3000 * (M 739 28) ∧ (RG T x739_30 x739_38 c0 1 (M 739 47) (M 739 33) 0 (M 739 28) (M 739 29)) ∧ (TK M) ∧ (GE M s0 u0 0 0) ∧ (TXQ T M) ∧ (TTP T M)) = Q
  refine wk_al0 r62_0 (wk_cv1 r62_1 kc_739_84 rfl (m8084_739 _ M0 x739_28 hP0 ex739_28 (by first | with_reducible assumption | omega) (by first | with_reducible assumption | omega)) (cqI ?_))
  rintro v7 M1 ⟨hP2, hQ3, h8, h9, h5, h6⟩
  obtain rfl := Fr.same hQ3
  have e10 := ex739_28
  refine wk_ifne r62_4 ⟨by omega, by omega⟩ ?_ ?_
  · intro h11
    refine wk_al0 r62_8 (wk_cv1 r62_9 kc_739_97 rfl (m8097_739 _ M0 x739_32 x739_34 x739_30 x739_33 T hP0 ex739_32 (by first | with_reducible assumption | omega) (by first | with_reducible assumption | omega) ex739_34 (by first | with_reducible assumption | omega) (by first | with_reducible assumption | omega) ex739_30 (by first | with_reducible assumption | omega) (by first | with_reducible assumption | omega) ex739_33 (by first | with_reducible assumption | omega) (by first | with_reducible assumption | omega) pp_TK pp_TT) (cqI ?_))
    rintro v18 M12 ⟨hP13, hQ14, h19, h20, h16, xh17⟩
    obtain rfl := Fr.same hQ14
    have e21 := ex739_34
    refine wk_is1 r62_12 rfl (wk_al0 r62_13 (wk_cv1 r62_14 kc_739_86 rfl (m8086_739 _ M0 x739_32 x739_34 x739_30 x739_33 T hP0 ex739_32 (by first | with_reducible assumption | omega) (by first | with_reducible assumption | omega) ex739_34 (by first | with_reducible assumption | omega) (by first | with_reducible assumption | omega) ex739_30 (by first | with_reducible assumption | omega) (by first | with_reducible assumption | omega) ex739_33 (by first | with_reducible assumption | omega) (by first | with_reducible assumption | omega) pp_TT) (cqI ?_)))
    rintro v31 M22 ⟨hP23, hQ24, h32, h33, h26, h27, h28, h29, xh30⟩
    obtain rfl := Fr.same hQ24
    have e34 := ex739_34
    have e35 := ex739_32
    refine wk_ifne r62_17 ⟨by omega, by omega⟩ ?_ ?_
    · intro h36
      replace h26 := h26 (z1_of h32 h33 h36)
      replace h27 := h27 (z1_of h32 h33 h36)
      replace h28 := h28 (z1_of h32 h33 h36)
      replace h29 := h29 (z1_of h32 h33 h36)
      refine wk_c1 r62_65 (wk_goto r62_66 (wk_is2 r62_70 rfl ?_))
      have hcb : cbI T x739_30 x739_33 = 1 := cbI_y (by omega)
      refine wk_il2 r62_71 ?_
      refine wk_ifne r62_72 (by decide) ?_ ?_
      · intro h37
        refine wk_al0 r62_80 (wk_getfi r62_81 fd_739_47 ex739_47 (wk_c2 r62_84 ?_))
        refine wk_icne r62_86 ⟨by omega, by omega⟩ (by decide) ?_ ?_
        · intro h38
          refine wk_al0 r62_94 (wk_dupr r62_95 (wk_getfi r62_96 fd_739_47 ex739_47 (wk_c1 r62_99 (wk_iadd r62_100 (wk_putfi81 r62_101 fd_739_47 (wk_nw g_739_47 rfl hP0 hF0 (uf_739_47 ⟨by omega, by omega⟩) ?_))))))
          intro M39 hP40 hF41 e42
          subst hQ; exact wk_ret r62_104 (⟨rfl, hP40, hF41, by have := (mUp_no e42 ex739_30 (Or.inr (by decide))); have := (mUp_no e42 ex739_31 (Or.inr (by decide))); omega, by have := (mUp_no e42 ex739_31 (Or.inr (by decide))); have := (mUp_no e42 ex739_33 (Or.inr (by decide))); have := (mUp_no e42 ex739_34 (Or.inr (by decide))); omega, by have := (mUp_no e42 ex739_31 (Or.inr (by decide))); have := (mUp_no e42 ex739_33 (Or.inr (by decide))); have := (mUp_no e42 ex739_34 (Or.inr (by decide))); omega, by have := (mUp_no e42 ex739_34 (Or.inr (by decide))); have := (mUp_no e42 ex739_32 (Or.inr (by decide))); omega, by have := (mUp_no e42 ex739_33 (Or.inr (by decide))); omega, by have := (mUp_no e42 ex739_28 (Or.inr (by decide))); omega, by have := (mUp_no e42 ex739_45 (Or.inr (by decide))); have := (mUp_no e42 ex739_46 (Or.inr (by decide))); omega, by have := (mUp_at e42); have := (mUp_no e42 ex739_28 (Or.inr (by decide))); omega, by have := (mUp_at e42); omega, by have := (mUp_at e42); omega, by have := (mUp_at e42); omega, by have := (mUp_at e42); omega, by have := (mUp_no e42 ex739_29 (Or.inr (by decide))); omega, by have := (mUp_no e42 ex739_29 (Or.inr (by decide))); have := (mUp_no e42 ex739_28 (Or.inr (by decide))); omega, by have := (mUp_no e42 ex739_29 (Or.inr (by decide))); have := (mUp_no e42 ex739_28 (Or.inr (by decide))); omega, by rw [(mUp_at e42), (mUp_no e42 ex739_33 (Or.inr (by decide))), (mUp_no e42 ex739_28 (Or.inr (by decide))), (mUp_no e42 ex739_29 (Or.inr (by decide)))]; exact deep_g xp0 (by omega) hcb (by omega) (by omega) (by omega), (TK_sm (Sm.up e42 g_739_47 rfl) pp_TK), (GE_deep e42 (by have := ex739_47; omega) pp_F0), (TXQ_sm (Sm.up e42 g_739_47 rfl) pp_TQ), (TTP_sm (Sm.up e42 g_739_47 rfl) pp_TT)⟩)
        · intro h43
          refine wk_al0 r62_89 (wk_c1 r62_90 (wk_cv2 r62_91 kc_739_137 rfl (m8137_739 _ M0 2 x739_28 x739_33 x739_29 hP0 (by decide) (by decide) ex739_28 (by first | with_reducible assumption | omega) (by first | with_reducible assumption | omega) ex739_33 (by first | with_reducible assumption | omega) (by first | with_reducible assumption | omega) ex739_29 (by first | with_reducible assumption | omega) (by first | with_reducible assumption | omega)) (cqV ?_)))
          rintro M44 ⟨hP45, hQ46, h48, h49, h50, h51, h52, xh53⟩
          have hF47 : Fr fm_m8062_739 M0 M44 := hF0.tr hQ46 rfl
          obtain ⟨v54, e55⟩ : ∃ v, M44 739 28 = v := ⟨_, rfl⟩
          have h56 := (bf_739_28 hP45).1; rw [e55] at h56
          have h57 := (bf_739_28 hP45).2; rw [e55] at h57
          obtain ⟨v58, e59⟩ : ∃ v, M44 739 29 = v := ⟨_, rfl⟩
          have h60 := (bf_739_29 hP45).1; rw [e59] at h60
          have h61 := (bf_739_29 hP45).2; rw [e59] at h61
          have pr62 : GE M44 s0 u0 0 1 := GE_mn (Sm.fr hQ46 rfl) (fun q => by have := ex739_28; have := e55; omega) pp_F0
          refine wk_al0 r62_94 (wk_dupr r62_95 (wk_getfi r62_96 fd_739_47 ((hQ46.at g_739_47 rfl).trans ex739_47) (wk_c1 r62_99 (wk_iadd r62_100 (wk_putfi81 r62_101 fd_739_47 (wk_nw g_739_47 rfl hP45 hF47 (uf_739_47 ⟨by omega, by omega⟩) ?_))))))
          intro M63 hP64 hF65 e66
          subst hQ; exact wk_ret r62_104 (⟨rfl, hP64, hF65, by have := (mUp_no e66 ((hQ46.at g_739_30 rfl).trans ex739_30) (Or.inr (by decide))); have := (mUp_no e66 ((hQ46.at g_739_31 rfl).trans ex739_31) (Or.inr (by decide))); omega, by have := (mUp_no e66 ((hQ46.at g_739_31 rfl).trans ex739_31) (Or.inr (by decide))); have := (mUp_no e66 ((hQ46.at g_739_33 rfl).trans ex739_33) (Or.inr (by decide))); have := (mUp_no e66 ((hQ46.at g_739_34 rfl).trans ex739_34) (Or.inr (by decide))); omega, by have := (mUp_no e66 ((hQ46.at g_739_31 rfl).trans ex739_31) (Or.inr (by decide))); have := (mUp_no e66 ((hQ46.at g_739_33 rfl).trans ex739_33) (Or.inr (by decide))); have := (mUp_no e66 ((hQ46.at g_739_34 rfl).trans ex739_34) (Or.inr (by decide))); omega, by have := (mUp_no e66 ((hQ46.at g_739_34 rfl).trans ex739_34) (Or.inr (by decide))); have := (mUp_no e66 ((hQ46.at g_739_32 rfl).trans ex739_32) (Or.inr (by decide))); omega, by have := (mUp_no e66 ((hQ46.at g_739_33 rfl).trans ex739_33) (Or.inr (by decide))); omega, by have := (mUp_no e66 e55 (Or.inr (by decide))); omega, by have := (mUp_no e66 ((hQ46.at g_739_45 rfl).trans ex739_45) (Or.inr (by decide))); have := (mUp_no e66 ((hQ46.at g_739_46 rfl).trans ex739_46) (Or.inr (by decide))); omega, by have := (mUp_at e66); have := (mUp_no e66 e55 (Or.inr (by decide))); omega, by have := (mUp_at e66); omega, by have := (mUp_at e66); omega, by have := (mUp_at e66); omega, by have := (mUp_at e66); omega, by have := (mUp_no e66 e59 (Or.inr (by decide))); omega, by have := (mUp_no e66 e59 (Or.inr (by decide))); have := (mUp_no e66 e55 (Or.inr (by decide))); omega, by have := (mUp_no e66 e59 (Or.inr (by decide))); have := (mUp_no e66 e55 (Or.inr (by decide))); omega, by rw [(mUp_at e66), (mUp_no e66 ((hQ46.at g_739_33 rfl).trans ex739_33) (Or.inr (by decide))), (mUp_no e66 e55 (Or.inr (by decide))), (mUp_no e66 e59 (Or.inr (by decide)))]; exact deep_6 xp0 (by omega) hcb (by omega) (by omega) (by omega), (TK_sm (Sm.up e66 g_739_47 rfl) (TK_sm (Sm.fr hQ46 rfl) pp_TK)), (GE_deep e66 (by have := ((hQ46.at g_739_47 rfl).trans ex739_47); omega) pr62), (TXQ_sm (Sm.up e66 g_739_47 rfl) (TXQ_sm (Sm.fr hQ46 rfl) pp_TQ)), (TTP_sm (Sm.up e66 g_739_47 rfl) (TTP_sm (Sm.fr hQ46 rfl) pp_TT))⟩)
      · intro h67
        exfalso
        omega
    · intro h68
      clear h26 h27 h28 h29
      refine wk_al0 r62_20 (wk_c2 r62_21 ?_)
      obtain ⟨v69, e70⟩ : ∃ v, M0 739 36 = v := ⟨_, rfl⟩
      have h71 := (bf_739_36 hP0).1; rw [e70] at h71
      have h72 := (bf_739_36 hP0).2; rw [e70] at h72
      refine wk_cv2 r62_23 kc_739_88 rfl (m8088_739 _ M0 40 x739_32 v69 x739_30 x739_33 T hP0 (by decide) (by decide) ex739_32 (by first | with_reducible assumption | omega) (by first | with_reducible assumption | omega) e70 (by first | with_reducible assumption | omega) (by first | with_reducible assumption | omega) ex739_30 (by first | with_reducible assumption | omega) (by first | with_reducible assumption | omega) ex739_33 (by first | with_reducible assumption | omega) (by first | with_reducible assumption | omega) pp_TT) (cqI ?_)
      rintro v81 M73 ⟨hP74, hQ75, h82, h83, h77, h78, h79, xh80⟩
      obtain rfl := Fr.same hQ75
      have e84 := ex739_32
      have e85 := e70
      refine wk_ifne r62_26 ⟨by omega, by omega⟩ ?_ ?_
      · intro h86
        replace h77 := h77 (z1_of h82 h83 h86)
        replace h78 := h78 (z1_of h82 h83 h86)
        replace h79 := h79 (z1_of h82 h83 h86)
        refine wk_c1 r62_65 (wk_goto r62_66 (wk_is2 r62_70 rfl ?_))
        have hcb : cbI T x739_30 x739_33 = 1 := cbI_y (by omega)
        refine wk_il2 r62_71 ?_
        refine wk_ifne r62_72 (by decide) ?_ ?_
        · intro h87
          refine wk_al0 r62_80 (wk_getfi r62_81 fd_739_47 ex739_47 (wk_c2 r62_84 ?_))
          refine wk_icne r62_86 ⟨by omega, by omega⟩ (by decide) ?_ ?_
          · intro h88
            refine wk_al0 r62_94 (wk_dupr r62_95 (wk_getfi r62_96 fd_739_47 ex739_47 (wk_c1 r62_99 (wk_iadd r62_100 (wk_putfi81 r62_101 fd_739_47 (wk_nw g_739_47 rfl hP0 hF0 (uf_739_47 ⟨by omega, by omega⟩) ?_))))))
            intro M89 hP90 hF91 e92
            subst hQ; exact wk_ret r62_104 (⟨rfl, hP90, hF91, by have := (mUp_no e92 ex739_30 (Or.inr (by decide))); have := (mUp_no e92 ex739_31 (Or.inr (by decide))); omega, by have := (mUp_no e92 ex739_31 (Or.inr (by decide))); have := (mUp_no e92 ex739_33 (Or.inr (by decide))); have := (mUp_no e92 ex739_34 (Or.inr (by decide))); omega, by have := (mUp_no e92 ex739_31 (Or.inr (by decide))); have := (mUp_no e92 ex739_33 (Or.inr (by decide))); have := (mUp_no e92 ex739_34 (Or.inr (by decide))); omega, by have := (mUp_no e92 ex739_34 (Or.inr (by decide))); have := (mUp_no e92 ex739_32 (Or.inr (by decide))); omega, by have := (mUp_no e92 ex739_33 (Or.inr (by decide))); omega, by have := (mUp_no e92 ex739_28 (Or.inr (by decide))); omega, by have := (mUp_no e92 ex739_45 (Or.inr (by decide))); have := (mUp_no e92 ex739_46 (Or.inr (by decide))); omega, by have := (mUp_at e92); have := (mUp_no e92 ex739_28 (Or.inr (by decide))); omega, by have := (mUp_at e92); omega, by have := (mUp_at e92); omega, by have := (mUp_at e92); omega, by have := (mUp_at e92); omega, by have := (mUp_no e92 ex739_29 (Or.inr (by decide))); omega, by have := (mUp_no e92 ex739_29 (Or.inr (by decide))); have := (mUp_no e92 ex739_28 (Or.inr (by decide))); omega, by have := (mUp_no e92 ex739_29 (Or.inr (by decide))); have := (mUp_no e92 ex739_28 (Or.inr (by decide))); omega, by rw [(mUp_at e92), (mUp_no e92 ex739_33 (Or.inr (by decide))), (mUp_no e92 ex739_28 (Or.inr (by decide))), (mUp_no e92 ex739_29 (Or.inr (by decide)))]; exact deep_g xp0 (by omega) hcb (by omega) (by omega) (by omega), (TK_sm (Sm.up e92 g_739_47 rfl) pp_TK), (GE_deep e92 (by have := ex739_47; omega) pp_F0), (TXQ_sm (Sm.up e92 g_739_47 rfl) pp_TQ), (TTP_sm (Sm.up e92 g_739_47 rfl) pp_TT)⟩)
          · intro h93
            refine wk_al0 r62_89 (wk_c1 r62_90 (wk_cv2 r62_91 kc_739_137 rfl (m8137_739 _ M0 2 x739_28 x739_33 x739_29 hP0 (by decide) (by decide) ex739_28 (by first | with_reducible assumption | omega) (by first | with_reducible assumption | omega) ex739_33 (by first | with_reducible assumption | omega) (by first | with_reducible assumption | omega) ex739_29 (by first | with_reducible assumption | omega) (by first | with_reducible assumption | omega)) (cqV ?_)))
            rintro M94 ⟨hP95, hQ96, h98, h99, h100, h101, h102, xh103⟩
            have hF97 : Fr fm_m8062_739 M0 M94 := hF0.tr hQ96 rfl
            obtain ⟨v104, e105⟩ : ∃ v, M94 739 28 = v := ⟨_, rfl⟩
            have h106 := (bf_739_28 hP95).1; rw [e105] at h106
            have h107 := (bf_739_28 hP95).2; rw [e105] at h107
            obtain ⟨v108, e109⟩ : ∃ v, M94 739 29 = v := ⟨_, rfl⟩
            have h110 := (bf_739_29 hP95).1; rw [e109] at h110
            have h111 := (bf_739_29 hP95).2; rw [e109] at h111
            have pr112 : GE M94 s0 u0 0 1 := GE_mn (Sm.fr hQ96 rfl) (fun q => by have := ex739_28; have := e105; omega) pp_F0
            refine wk_al0 r62_94 (wk_dupr r62_95 (wk_getfi r62_96 fd_739_47 ((hQ96.at g_739_47 rfl).trans ex739_47) (wk_c1 r62_99 (wk_iadd r62_100 (wk_putfi81 r62_101 fd_739_47 (wk_nw g_739_47 rfl hP95 hF97 (uf_739_47 ⟨by omega, by omega⟩) ?_))))))
            intro M113 hP114 hF115 e116
            subst hQ; exact wk_ret r62_104 (⟨rfl, hP114, hF115, by have := (mUp_no e116 ((hQ96.at g_739_30 rfl).trans ex739_30) (Or.inr (by decide))); have := (mUp_no e116 ((hQ96.at g_739_31 rfl).trans ex739_31) (Or.inr (by decide))); omega, by have := (mUp_no e116 ((hQ96.at g_739_31 rfl).trans ex739_31) (Or.inr (by decide))); have := (mUp_no e116 ((hQ96.at g_739_33 rfl).trans ex739_33) (Or.inr (by decide))); have := (mUp_no e116 ((hQ96.at g_739_34 rfl).trans ex739_34) (Or.inr (by decide))); omega, by have := (mUp_no e116 ((hQ96.at g_739_31 rfl).trans ex739_31) (Or.inr (by decide))); have := (mUp_no e116 ((hQ96.at g_739_33 rfl).trans ex739_33) (Or.inr (by decide))); have := (mUp_no e116 ((hQ96.at g_739_34 rfl).trans ex739_34) (Or.inr (by decide))); omega, by have := (mUp_no e116 ((hQ96.at g_739_34 rfl).trans ex739_34) (Or.inr (by decide))); have := (mUp_no e116 ((hQ96.at g_739_32 rfl).trans ex739_32) (Or.inr (by decide))); omega, by have := (mUp_no e116 ((hQ96.at g_739_33 rfl).trans ex739_33) (Or.inr (by decide))); omega, by have := (mUp_no e116 e105 (Or.inr (by decide))); omega, by have := (mUp_no e116 ((hQ96.at g_739_45 rfl).trans ex739_45) (Or.inr (by decide))); have := (mUp_no e116 ((hQ96.at g_739_46 rfl).trans ex739_46) (Or.inr (by decide))); omega, by have := (mUp_at e116); have := (mUp_no e116 e105 (Or.inr (by decide))); omega, by have := (mUp_at e116); omega, by have := (mUp_at e116); omega, by have := (mUp_at e116); omega, by have := (mUp_at e116); omega, by have := (mUp_no e116 e109 (Or.inr (by decide))); omega, by have := (mUp_no e116 e109 (Or.inr (by decide))); have := (mUp_no e116 e105 (Or.inr (by decide))); omega, by have := (mUp_no e116 e109 (Or.inr (by decide))); have := (mUp_no e116 e105 (Or.inr (by decide))); omega, by rw [(mUp_at e116), (mUp_no e116 ((hQ96.at g_739_33 rfl).trans ex739_33) (Or.inr (by decide))), (mUp_no e116 e105 (Or.inr (by decide))), (mUp_no e116 e109 (Or.inr (by decide)))]; exact deep_6 xp0 (by omega) hcb (by omega) (by omega) (by omega), (TK_sm (Sm.up e116 g_739_47 rfl) (TK_sm (Sm.fr hQ96 rfl) pp_TK)), (GE_deep e116 (by have := ((hQ96.at g_739_47 rfl).trans ex739_47); omega) pr112), (TXQ_sm (Sm.up e116 g_739_47 rfl) (TXQ_sm (Sm.fr hQ96 rfl) pp_TQ)), (TTP_sm (Sm.up e116 g_739_47 rfl) (TTP_sm (Sm.fr hQ96 rfl) pp_TT))⟩)
        · intro h117
          exfalso
          omega
      · intro h118
        clear h77 h78 h79
        refine wk_il1 r62_29 (wk_c2 r62_30 ?_)
        refine wk_iceq r62_32 ⟨by omega, by omega⟩ (by decide) ?_ ?_
        · intro h119
          refine wk_c1 r62_65 (wk_goto r62_66 (wk_is2 r62_70 rfl ?_))
          have hcb : cbI T x739_30 x739_33 = 1 := cbI_y (by omega)
          refine wk_il2 r62_71 ?_
          refine wk_ifne r62_72 (by decide) ?_ ?_
          · intro h120
            refine wk_al0 r62_80 (wk_getfi r62_81 fd_739_47 ex739_47 (wk_c2 r62_84 ?_))
            refine wk_icne r62_86 ⟨by omega, by omega⟩ (by decide) ?_ ?_
            · intro h121
              refine wk_al0 r62_94 (wk_dupr r62_95 (wk_getfi r62_96 fd_739_47 ex739_47 (wk_c1 r62_99 (wk_iadd r62_100 (wk_putfi81 r62_101 fd_739_47 (wk_nw g_739_47 rfl hP0 hF0 (uf_739_47 ⟨by omega, by omega⟩) ?_))))))
              intro M122 hP123 hF124 e125
              subst hQ; exact wk_ret r62_104 (⟨rfl, hP123, hF124, by have := (mUp_no e125 ex739_30 (Or.inr (by decide))); have := (mUp_no e125 ex739_31 (Or.inr (by decide))); omega, by have := (mUp_no e125 ex739_31 (Or.inr (by decide))); have := (mUp_no e125 ex739_33 (Or.inr (by decide))); have := (mUp_no e125 ex739_34 (Or.inr (by decide))); omega, by have := (mUp_no e125 ex739_31 (Or.inr (by decide))); have := (mUp_no e125 ex739_33 (Or.inr (by decide))); have := (mUp_no e125 ex739_34 (Or.inr (by decide))); omega, by have := (mUp_no e125 ex739_34 (Or.inr (by decide))); have := (mUp_no e125 ex739_32 (Or.inr (by decide))); omega, by have := (mUp_no e125 ex739_33 (Or.inr (by decide))); omega, by have := (mUp_no e125 ex739_28 (Or.inr (by decide))); omega, by have := (mUp_no e125 ex739_45 (Or.inr (by decide))); have := (mUp_no e125 ex739_46 (Or.inr (by decide))); omega, by have := (mUp_at e125); have := (mUp_no e125 ex739_28 (Or.inr (by decide))); omega, by have := (mUp_at e125); omega, by have := (mUp_at e125); omega, by have := (mUp_at e125); omega, by have := (mUp_at e125); omega, by have := (mUp_no e125 ex739_29 (Or.inr (by decide))); omega, by have := (mUp_no e125 ex739_29 (Or.inr (by decide))); have := (mUp_no e125 ex739_28 (Or.inr (by decide))); omega, by have := (mUp_no e125 ex739_29 (Or.inr (by decide))); have := (mUp_no e125 ex739_28 (Or.inr (by decide))); omega, by rw [(mUp_at e125), (mUp_no e125 ex739_33 (Or.inr (by decide))), (mUp_no e125 ex739_28 (Or.inr (by decide))), (mUp_no e125 ex739_29 (Or.inr (by decide)))]; exact deep_g xp0 (by omega) hcb (by omega) (by omega) (by omega), (TK_sm (Sm.up e125 g_739_47 rfl) pp_TK), (GE_deep e125 (by have := ex739_47; omega) pp_F0), (TXQ_sm (Sm.up e125 g_739_47 rfl) pp_TQ), (TTP_sm (Sm.up e125 g_739_47 rfl) pp_TT)⟩)
            · intro h126
              refine wk_al0 r62_89 (wk_c1 r62_90 (wk_cv2 r62_91 kc_739_137 rfl (m8137_739 _ M0 2 x739_28 x739_33 x739_29 hP0 (by decide) (by decide) ex739_28 (by first | with_reducible assumption | omega) (by first | with_reducible assumption | omega) ex739_33 (by first | with_reducible assumption | omega) (by first | with_reducible assumption | omega) ex739_29 (by first | with_reducible assumption | omega) (by first | with_reducible assumption | omega)) (cqV ?_)))
              rintro M127 ⟨hP128, hQ129, h131, h132, h133, h134, h135, xh136⟩
              have hF130 : Fr fm_m8062_739 M0 M127 := hF0.tr hQ129 rfl
              obtain ⟨v137, e138⟩ : ∃ v, M127 739 28 = v := ⟨_, rfl⟩
              have h139 := (bf_739_28 hP128).1; rw [e138] at h139
              have h140 := (bf_739_28 hP128).2; rw [e138] at h140
              obtain ⟨v141, e142⟩ : ∃ v, M127 739 29 = v := ⟨_, rfl⟩
              have h143 := (bf_739_29 hP128).1; rw [e142] at h143
              have h144 := (bf_739_29 hP128).2; rw [e142] at h144
              have pr145 : GE M127 s0 u0 0 1 := GE_mn (Sm.fr hQ129 rfl) (fun q => by have := ex739_28; have := e138; omega) pp_F0
              refine wk_al0 r62_94 (wk_dupr r62_95 (wk_getfi r62_96 fd_739_47 ((hQ129.at g_739_47 rfl).trans ex739_47) (wk_c1 r62_99 (wk_iadd r62_100 (wk_putfi81 r62_101 fd_739_47 (wk_nw g_739_47 rfl hP128 hF130 (uf_739_47 ⟨by omega, by omega⟩) ?_))))))
              intro M146 hP147 hF148 e149
              subst hQ; exact wk_ret r62_104 (⟨rfl, hP147, hF148, by have := (mUp_no e149 ((hQ129.at g_739_30 rfl).trans ex739_30) (Or.inr (by decide))); have := (mUp_no e149 ((hQ129.at g_739_31 rfl).trans ex739_31) (Or.inr (by decide))); omega, by have := (mUp_no e149 ((hQ129.at g_739_31 rfl).trans ex739_31) (Or.inr (by decide))); have := (mUp_no e149 ((hQ129.at g_739_33 rfl).trans ex739_33) (Or.inr (by decide))); have := (mUp_no e149 ((hQ129.at g_739_34 rfl).trans ex739_34) (Or.inr (by decide))); omega, by have := (mUp_no e149 ((hQ129.at g_739_31 rfl).trans ex739_31) (Or.inr (by decide))); have := (mUp_no e149 ((hQ129.at g_739_33 rfl).trans ex739_33) (Or.inr (by decide))); have := (mUp_no e149 ((hQ129.at g_739_34 rfl).trans ex739_34) (Or.inr (by decide))); omega, by have := (mUp_no e149 ((hQ129.at g_739_34 rfl).trans ex739_34) (Or.inr (by decide))); have := (mUp_no e149 ((hQ129.at g_739_32 rfl).trans ex739_32) (Or.inr (by decide))); omega, by have := (mUp_no e149 ((hQ129.at g_739_33 rfl).trans ex739_33) (Or.inr (by decide))); omega, by have := (mUp_no e149 e138 (Or.inr (by decide))); omega, by have := (mUp_no e149 ((hQ129.at g_739_45 rfl).trans ex739_45) (Or.inr (by decide))); have := (mUp_no e149 ((hQ129.at g_739_46 rfl).trans ex739_46) (Or.inr (by decide))); omega, by have := (mUp_at e149); have := (mUp_no e149 e138 (Or.inr (by decide))); omega, by have := (mUp_at e149); omega, by have := (mUp_at e149); omega, by have := (mUp_at e149); omega, by have := (mUp_at e149); omega, by have := (mUp_no e149 e142 (Or.inr (by decide))); omega, by have := (mUp_no e149 e142 (Or.inr (by decide))); have := (mUp_no e149 e138 (Or.inr (by decide))); omega, by have := (mUp_no e149 e142 (Or.inr (by decide))); have := (mUp_no e149 e138 (Or.inr (by decide))); omega, by rw [(mUp_at e149), (mUp_no e149 ((hQ129.at g_739_33 rfl).trans ex739_33) (Or.inr (by decide))), (mUp_no e149 e138 (Or.inr (by decide))), (mUp_no e149 e142 (Or.inr (by decide)))]; exact deep_6 xp0 (by omega) hcb (by omega) (by omega) (by omega), (TK_sm (Sm.up e149 g_739_47 rfl) (TK_sm (Sm.fr hQ129 rfl) pp_TK)), (GE_deep e149 (by have := ((hQ129.at g_739_47 rfl).trans ex739_47); omega) pr145), (TXQ_sm (Sm.up e149 g_739_47 rfl) (TXQ_sm (Sm.fr hQ129 rfl) pp_TQ)), (TTP_sm (Sm.up e149 g_739_47 rfl) (TTP_sm (Sm.fr hQ129 rfl) pp_TT))⟩)
          · intro h150
            exfalso
            omega
        · intro h151
          refine wk_il1 r62_35 (wk_c2 r62_36 ?_)
          refine wk_iceq r62_38 ⟨by omega, by omega⟩ (by decide) ?_ ?_
          · intro h152
            refine wk_c1 r62_65 (wk_goto r62_66 (wk_is2 r62_70 rfl ?_))
            have hcb : cbI T x739_30 x739_33 = 1 := cbI_y (by omega)
            refine wk_il2 r62_71 ?_
            refine wk_ifne r62_72 (by decide) ?_ ?_
            · intro h153
              refine wk_al0 r62_80 (wk_getfi r62_81 fd_739_47 ex739_47 (wk_c2 r62_84 ?_))
              refine wk_icne r62_86 ⟨by omega, by omega⟩ (by decide) ?_ ?_
              · intro h154
                refine wk_al0 r62_94 (wk_dupr r62_95 (wk_getfi r62_96 fd_739_47 ex739_47 (wk_c1 r62_99 (wk_iadd r62_100 (wk_putfi81 r62_101 fd_739_47 (wk_nw g_739_47 rfl hP0 hF0 (uf_739_47 ⟨by omega, by omega⟩) ?_))))))
                intro M155 hP156 hF157 e158
                subst hQ; exact wk_ret r62_104 (⟨rfl, hP156, hF157, by have := (mUp_no e158 ex739_30 (Or.inr (by decide))); have := (mUp_no e158 ex739_31 (Or.inr (by decide))); omega, by have := (mUp_no e158 ex739_31 (Or.inr (by decide))); have := (mUp_no e158 ex739_33 (Or.inr (by decide))); have := (mUp_no e158 ex739_34 (Or.inr (by decide))); omega, by have := (mUp_no e158 ex739_31 (Or.inr (by decide))); have := (mUp_no e158 ex739_33 (Or.inr (by decide))); have := (mUp_no e158 ex739_34 (Or.inr (by decide))); omega, by have := (mUp_no e158 ex739_34 (Or.inr (by decide))); have := (mUp_no e158 ex739_32 (Or.inr (by decide))); omega, by have := (mUp_no e158 ex739_33 (Or.inr (by decide))); omega, by have := (mUp_no e158 ex739_28 (Or.inr (by decide))); omega, by have := (mUp_no e158 ex739_45 (Or.inr (by decide))); have := (mUp_no e158 ex739_46 (Or.inr (by decide))); omega, by have := (mUp_at e158); have := (mUp_no e158 ex739_28 (Or.inr (by decide))); omega, by have := (mUp_at e158); omega, by have := (mUp_at e158); omega, by have := (mUp_at e158); omega, by have := (mUp_at e158); omega, by have := (mUp_no e158 ex739_29 (Or.inr (by decide))); omega, by have := (mUp_no e158 ex739_29 (Or.inr (by decide))); have := (mUp_no e158 ex739_28 (Or.inr (by decide))); omega, by have := (mUp_no e158 ex739_29 (Or.inr (by decide))); have := (mUp_no e158 ex739_28 (Or.inr (by decide))); omega, by rw [(mUp_at e158), (mUp_no e158 ex739_33 (Or.inr (by decide))), (mUp_no e158 ex739_28 (Or.inr (by decide))), (mUp_no e158 ex739_29 (Or.inr (by decide)))]; exact deep_g xp0 (by omega) hcb (by omega) (by omega) (by omega), (TK_sm (Sm.up e158 g_739_47 rfl) pp_TK), (GE_deep e158 (by have := ex739_47; omega) pp_F0), (TXQ_sm (Sm.up e158 g_739_47 rfl) pp_TQ), (TTP_sm (Sm.up e158 g_739_47 rfl) pp_TT)⟩)
              · intro h159
                refine wk_al0 r62_89 (wk_c1 r62_90 (wk_cv2 r62_91 kc_739_137 rfl (m8137_739 _ M0 2 x739_28 x739_33 x739_29 hP0 (by decide) (by decide) ex739_28 (by first | with_reducible assumption | omega) (by first | with_reducible assumption | omega) ex739_33 (by first | with_reducible assumption | omega) (by first | with_reducible assumption | omega) ex739_29 (by first | with_reducible assumption | omega) (by first | with_reducible assumption | omega)) (cqV ?_)))
                rintro M160 ⟨hP161, hQ162, h164, h165, h166, h167, h168, xh169⟩
                have hF163 : Fr fm_m8062_739 M0 M160 := hF0.tr hQ162 rfl
                obtain ⟨v170, e171⟩ : ∃ v, M160 739 28 = v := ⟨_, rfl⟩
                have h172 := (bf_739_28 hP161).1; rw [e171] at h172
                have h173 := (bf_739_28 hP161).2; rw [e171] at h173
                obtain ⟨v174, e175⟩ : ∃ v, M160 739 29 = v := ⟨_, rfl⟩
                have h176 := (bf_739_29 hP161).1; rw [e175] at h176
                have h177 := (bf_739_29 hP161).2; rw [e175] at h177
                have pr178 : GE M160 s0 u0 0 1 := GE_mn (Sm.fr hQ162 rfl) (fun q => by have := ex739_28; have := e171; omega) pp_F0
                refine wk_al0 r62_94 (wk_dupr r62_95 (wk_getfi r62_96 fd_739_47 ((hQ162.at g_739_47 rfl).trans ex739_47) (wk_c1 r62_99 (wk_iadd r62_100 (wk_putfi81 r62_101 fd_739_47 (wk_nw g_739_47 rfl hP161 hF163 (uf_739_47 ⟨by omega, by omega⟩) ?_))))))
                intro M179 hP180 hF181 e182
                subst hQ; exact wk_ret r62_104 (⟨rfl, hP180, hF181, by have := (mUp_no e182 ((hQ162.at g_739_30 rfl).trans ex739_30) (Or.inr (by decide))); have := (mUp_no e182 ((hQ162.at g_739_31 rfl).trans ex739_31) (Or.inr (by decide))); omega, by have := (mUp_no e182 ((hQ162.at g_739_31 rfl).trans ex739_31) (Or.inr (by decide))); have := (mUp_no e182 ((hQ162.at g_739_33 rfl).trans ex739_33) (Or.inr (by decide))); have := (mUp_no e182 ((hQ162.at g_739_34 rfl).trans ex739_34) (Or.inr (by decide))); omega, by have := (mUp_no e182 ((hQ162.at g_739_31 rfl).trans ex739_31) (Or.inr (by decide))); have := (mUp_no e182 ((hQ162.at g_739_33 rfl).trans ex739_33) (Or.inr (by decide))); have := (mUp_no e182 ((hQ162.at g_739_34 rfl).trans ex739_34) (Or.inr (by decide))); omega, by have := (mUp_no e182 ((hQ162.at g_739_34 rfl).trans ex739_34) (Or.inr (by decide))); have := (mUp_no e182 ((hQ162.at g_739_32 rfl).trans ex739_32) (Or.inr (by decide))); omega, by have := (mUp_no e182 ((hQ162.at g_739_33 rfl).trans ex739_33) (Or.inr (by decide))); omega, by have := (mUp_no e182 e171 (Or.inr (by decide))); omega, by have := (mUp_no e182 ((hQ162.at g_739_45 rfl).trans ex739_45) (Or.inr (by decide))); have := (mUp_no e182 ((hQ162.at g_739_46 rfl).trans ex739_46) (Or.inr (by decide))); omega, by have := (mUp_at e182); have := (mUp_no e182 e171 (Or.inr (by decide))); omega, by have := (mUp_at e182); omega, by have := (mUp_at e182); omega, by have := (mUp_at e182); omega, by have := (mUp_at e182); omega, by have := (mUp_no e182 e175 (Or.inr (by decide))); omega, by have := (mUp_no e182 e175 (Or.inr (by decide))); have := (mUp_no e182 e171 (Or.inr (by decide))); omega, by have := (mUp_no e182 e175 (Or.inr (by decide))); have := (mUp_no e182 e171 (Or.inr (by decide))); omega, by rw [(mUp_at e182), (mUp_no e182 ((hQ162.at g_739_33 rfl).trans ex739_33) (Or.inr (by decide))), (mUp_no e182 e171 (Or.inr (by decide))), (mUp_no e182 e175 (Or.inr (by decide)))]; exact deep_6 xp0 (by omega) hcb (by omega) (by omega) (by omega), (TK_sm (Sm.up e182 g_739_47 rfl) (TK_sm (Sm.fr hQ162 rfl) pp_TK)), (GE_deep e182 (by have := ((hQ162.at g_739_47 rfl).trans ex739_47); omega) pr178), (TXQ_sm (Sm.up e182 g_739_47 rfl) (TXQ_sm (Sm.fr hQ162 rfl) pp_TQ)), (TTP_sm (Sm.up e182 g_739_47 rfl) (TTP_sm (Sm.fr hQ162 rfl) pp_TT))⟩)
            · intro h183
              exfalso
              omega
          · intro h184
            refine wk_il1 r62_41 (wk_c2 r62_42 ?_)
            refine wk_iceq r62_44 ⟨by omega, by omega⟩ (by decide) ?_ ?_
            · intro h185
              refine wk_c1 r62_65 (wk_goto r62_66 (wk_is2 r62_70 rfl ?_))
              have hcb : cbI T x739_30 x739_33 = 1 := cbI_y (by omega)
              refine wk_il2 r62_71 ?_
              refine wk_ifne r62_72 (by decide) ?_ ?_
              · intro h186
                refine wk_al0 r62_80 (wk_getfi r62_81 fd_739_47 ex739_47 (wk_c2 r62_84 ?_))
                refine wk_icne r62_86 ⟨by omega, by omega⟩ (by decide) ?_ ?_
                · intro h187
                  refine wk_al0 r62_94 (wk_dupr r62_95 (wk_getfi r62_96 fd_739_47 ex739_47 (wk_c1 r62_99 (wk_iadd r62_100 (wk_putfi81 r62_101 fd_739_47 (wk_nw g_739_47 rfl hP0 hF0 (uf_739_47 ⟨by omega, by omega⟩) ?_))))))
                  intro M188 hP189 hF190 e191
                  subst hQ; exact wk_ret r62_104 (⟨rfl, hP189, hF190, by have := (mUp_no e191 ex739_30 (Or.inr (by decide))); have := (mUp_no e191 ex739_31 (Or.inr (by decide))); omega, by have := (mUp_no e191 ex739_31 (Or.inr (by decide))); have := (mUp_no e191 ex739_33 (Or.inr (by decide))); have := (mUp_no e191 ex739_34 (Or.inr (by decide))); omega, by have := (mUp_no e191 ex739_31 (Or.inr (by decide))); have := (mUp_no e191 ex739_33 (Or.inr (by decide))); have := (mUp_no e191 ex739_34 (Or.inr (by decide))); omega, by have := (mUp_no e191 ex739_34 (Or.inr (by decide))); have := (mUp_no e191 ex739_32 (Or.inr (by decide))); omega, by have := (mUp_no e191 ex739_33 (Or.inr (by decide))); omega, by have := (mUp_no e191 ex739_28 (Or.inr (by decide))); omega, by have := (mUp_no e191 ex739_45 (Or.inr (by decide))); have := (mUp_no e191 ex739_46 (Or.inr (by decide))); omega, by have := (mUp_at e191); have := (mUp_no e191 ex739_28 (Or.inr (by decide))); omega, by have := (mUp_at e191); omega, by have := (mUp_at e191); omega, by have := (mUp_at e191); omega, by have := (mUp_at e191); omega, by have := (mUp_no e191 ex739_29 (Or.inr (by decide))); omega, by have := (mUp_no e191 ex739_29 (Or.inr (by decide))); have := (mUp_no e191 ex739_28 (Or.inr (by decide))); omega, by have := (mUp_no e191 ex739_29 (Or.inr (by decide))); have := (mUp_no e191 ex739_28 (Or.inr (by decide))); omega, by rw [(mUp_at e191), (mUp_no e191 ex739_33 (Or.inr (by decide))), (mUp_no e191 ex739_28 (Or.inr (by decide))), (mUp_no e191 ex739_29 (Or.inr (by decide)))]; exact deep_g xp0 (by omega) hcb (by omega) (by omega) (by omega), (TK_sm (Sm.up e191 g_739_47 rfl) pp_TK), (GE_deep e191 (by have := ex739_47; omega) pp_F0), (TXQ_sm (Sm.up e191 g_739_47 rfl) pp_TQ), (TTP_sm (Sm.up e191 g_739_47 rfl) pp_TT)⟩)
                · intro h192
                  refine wk_al0 r62_89 (wk_c1 r62_90 (wk_cv2 r62_91 kc_739_137 rfl (m8137_739 _ M0 2 x739_28 x739_33 x739_29 hP0 (by decide) (by decide) ex739_28 (by first | with_reducible assumption | omega) (by first | with_reducible assumption | omega) ex739_33 (by first | with_reducible assumption | omega) (by first | with_reducible assumption | omega) ex739_29 (by first | with_reducible assumption | omega) (by first | with_reducible assumption | omega)) (cqV ?_)))
                  rintro M193 ⟨hP194, hQ195, h197, h198, h199, h200, h201, xh202⟩
                  have hF196 : Fr fm_m8062_739 M0 M193 := hF0.tr hQ195 rfl
                  obtain ⟨v203, e204⟩ : ∃ v, M193 739 28 = v := ⟨_, rfl⟩
                  have h205 := (bf_739_28 hP194).1; rw [e204] at h205
                  have h206 := (bf_739_28 hP194).2; rw [e204] at h206
                  obtain ⟨v207, e208⟩ : ∃ v, M193 739 29 = v := ⟨_, rfl⟩
                  have h209 := (bf_739_29 hP194).1; rw [e208] at h209
                  have h210 := (bf_739_29 hP194).2; rw [e208] at h210
                  have pr211 : GE M193 s0 u0 0 1 := GE_mn (Sm.fr hQ195 rfl) (fun q => by have := ex739_28; have := e204; omega) pp_F0
                  refine wk_al0 r62_94 (wk_dupr r62_95 (wk_getfi r62_96 fd_739_47 ((hQ195.at g_739_47 rfl).trans ex739_47) (wk_c1 r62_99 (wk_iadd r62_100 (wk_putfi81 r62_101 fd_739_47 (wk_nw g_739_47 rfl hP194 hF196 (uf_739_47 ⟨by omega, by omega⟩) ?_))))))
                  intro M212 hP213 hF214 e215
                  subst hQ; exact wk_ret r62_104 (⟨rfl, hP213, hF214, by have := (mUp_no e215 ((hQ195.at g_739_30 rfl).trans ex739_30) (Or.inr (by decide))); have := (mUp_no e215 ((hQ195.at g_739_31 rfl).trans ex739_31) (Or.inr (by decide))); omega, by have := (mUp_no e215 ((hQ195.at g_739_31 rfl).trans ex739_31) (Or.inr (by decide))); have := (mUp_no e215 ((hQ195.at g_739_33 rfl).trans ex739_33) (Or.inr (by decide))); have := (mUp_no e215 ((hQ195.at g_739_34 rfl).trans ex739_34) (Or.inr (by decide))); omega, by have := (mUp_no e215 ((hQ195.at g_739_31 rfl).trans ex739_31) (Or.inr (by decide))); have := (mUp_no e215 ((hQ195.at g_739_33 rfl).trans ex739_33) (Or.inr (by decide))); have := (mUp_no e215 ((hQ195.at g_739_34 rfl).trans ex739_34) (Or.inr (by decide))); omega, by have := (mUp_no e215 ((hQ195.at g_739_34 rfl).trans ex739_34) (Or.inr (by decide))); have := (mUp_no e215 ((hQ195.at g_739_32 rfl).trans ex739_32) (Or.inr (by decide))); omega, by have := (mUp_no e215 ((hQ195.at g_739_33 rfl).trans ex739_33) (Or.inr (by decide))); omega, by have := (mUp_no e215 e204 (Or.inr (by decide))); omega, by have := (mUp_no e215 ((hQ195.at g_739_45 rfl).trans ex739_45) (Or.inr (by decide))); have := (mUp_no e215 ((hQ195.at g_739_46 rfl).trans ex739_46) (Or.inr (by decide))); omega, by have := (mUp_at e215); have := (mUp_no e215 e204 (Or.inr (by decide))); omega, by have := (mUp_at e215); omega, by have := (mUp_at e215); omega, by have := (mUp_at e215); omega, by have := (mUp_at e215); omega, by have := (mUp_no e215 e208 (Or.inr (by decide))); omega, by have := (mUp_no e215 e208 (Or.inr (by decide))); have := (mUp_no e215 e204 (Or.inr (by decide))); omega, by have := (mUp_no e215 e208 (Or.inr (by decide))); have := (mUp_no e215 e204 (Or.inr (by decide))); omega, by rw [(mUp_at e215), (mUp_no e215 ((hQ195.at g_739_33 rfl).trans ex739_33) (Or.inr (by decide))), (mUp_no e215 e204 (Or.inr (by decide))), (mUp_no e215 e208 (Or.inr (by decide)))]; exact deep_6 xp0 (by omega) hcb (by omega) (by omega) (by omega), (TK_sm (Sm.up e215 g_739_47 rfl) (TK_sm (Sm.fr hQ195 rfl) pp_TK)), (GE_deep e215 (by have := ((hQ195.at g_739_47 rfl).trans ex739_47); omega) pr211), (TXQ_sm (Sm.up e215 g_739_47 rfl) (TXQ_sm (Sm.fr hQ195 rfl) pp_TQ)), (TTP_sm (Sm.up e215 g_739_47 rfl) (TTP_sm (Sm.fr hQ195 rfl) pp_TT))⟩)
              · intro h216
                exfalso
                omega
            · intro h217
              refine wk_il1 r62_47 (wk_c2 r62_48 ?_)
              refine wk_iceq r62_50 ⟨by omega, by omega⟩ (by decide) ?_ ?_
              · intro h218
                refine wk_c1 r62_65 (wk_goto r62_66 (wk_is2 r62_70 rfl ?_))
                have hcb : cbI T x739_30 x739_33 = 1 := cbI_y (by omega)
                refine wk_il2 r62_71 ?_
                refine wk_ifne r62_72 (by decide) ?_ ?_
                · intro h219
                  refine wk_al0 r62_80 (wk_getfi r62_81 fd_739_47 ex739_47 (wk_c2 r62_84 ?_))
                  refine wk_icne r62_86 ⟨by omega, by omega⟩ (by decide) ?_ ?_
                  · intro h220
                    refine wk_al0 r62_94 (wk_dupr r62_95 (wk_getfi r62_96 fd_739_47 ex739_47 (wk_c1 r62_99 (wk_iadd r62_100 (wk_putfi81 r62_101 fd_739_47 (wk_nw g_739_47 rfl hP0 hF0 (uf_739_47 ⟨by omega, by omega⟩) ?_))))))
                    intro M221 hP222 hF223 e224
                    subst hQ; exact wk_ret r62_104 (⟨rfl, hP222, hF223, by have := (mUp_no e224 ex739_30 (Or.inr (by decide))); have := (mUp_no e224 ex739_31 (Or.inr (by decide))); omega, by have := (mUp_no e224 ex739_31 (Or.inr (by decide))); have := (mUp_no e224 ex739_33 (Or.inr (by decide))); have := (mUp_no e224 ex739_34 (Or.inr (by decide))); omega, by have := (mUp_no e224 ex739_31 (Or.inr (by decide))); have := (mUp_no e224 ex739_33 (Or.inr (by decide))); have := (mUp_no e224 ex739_34 (Or.inr (by decide))); omega, by have := (mUp_no e224 ex739_34 (Or.inr (by decide))); have := (mUp_no e224 ex739_32 (Or.inr (by decide))); omega, by have := (mUp_no e224 ex739_33 (Or.inr (by decide))); omega, by have := (mUp_no e224 ex739_28 (Or.inr (by decide))); omega, by have := (mUp_no e224 ex739_45 (Or.inr (by decide))); have := (mUp_no e224 ex739_46 (Or.inr (by decide))); omega, by have := (mUp_at e224); have := (mUp_no e224 ex739_28 (Or.inr (by decide))); omega, by have := (mUp_at e224); omega, by have := (mUp_at e224); omega, by have := (mUp_at e224); omega, by have := (mUp_at e224); omega, by have := (mUp_no e224 ex739_29 (Or.inr (by decide))); omega, by have := (mUp_no e224 ex739_29 (Or.inr (by decide))); have := (mUp_no e224 ex739_28 (Or.inr (by decide))); omega, by have := (mUp_no e224 ex739_29 (Or.inr (by decide))); have := (mUp_no e224 ex739_28 (Or.inr (by decide))); omega, by rw [(mUp_at e224), (mUp_no e224 ex739_33 (Or.inr (by decide))), (mUp_no e224 ex739_28 (Or.inr (by decide))), (mUp_no e224 ex739_29 (Or.inr (by decide)))]; exact deep_g xp0 (by omega) hcb (by omega) (by omega) (by omega), (TK_sm (Sm.up e224 g_739_47 rfl) pp_TK), (GE_deep e224 (by have := ex739_47; omega) pp_F0), (TXQ_sm (Sm.up e224 g_739_47 rfl) pp_TQ), (TTP_sm (Sm.up e224 g_739_47 rfl) pp_TT)⟩)
                  · intro h225
                    refine wk_al0 r62_89 (wk_c1 r62_90 (wk_cv2 r62_91 kc_739_137 rfl (m8137_739 _ M0 2 x739_28 x739_33 x739_29 hP0 (by decide) (by decide) ex739_28 (by first | with_reducible assumption | omega) (by first | with_reducible assumption | omega) ex739_33 (by first | with_reducible assumption | omega) (by first | with_reducible assumption | omega) ex739_29 (by first | with_reducible assumption | omega) (by first | with_reducible assumption | omega)) (cqV ?_)))
                    rintro M226 ⟨hP227, hQ228, h230, h231, h232, h233, h234, xh235⟩
                    have hF229 : Fr fm_m8062_739 M0 M226 := hF0.tr hQ228 rfl
                    obtain ⟨v236, e237⟩ : ∃ v, M226 739 28 = v := ⟨_, rfl⟩
                    have h238 := (bf_739_28 hP227).1; rw [e237] at h238
                    have h239 := (bf_739_28 hP227).2; rw [e237] at h239
                    obtain ⟨v240, e241⟩ : ∃ v, M226 739 29 = v := ⟨_, rfl⟩
                    have h242 := (bf_739_29 hP227).1; rw [e241] at h242
                    have h243 := (bf_739_29 hP227).2; rw [e241] at h243
                    have pr244 : GE M226 s0 u0 0 1 := GE_mn (Sm.fr hQ228 rfl) (fun q => by have := ex739_28; have := e237; omega) pp_F0
                    refine wk_al0 r62_94 (wk_dupr r62_95 (wk_getfi r62_96 fd_739_47 ((hQ228.at g_739_47 rfl).trans ex739_47) (wk_c1 r62_99 (wk_iadd r62_100 (wk_putfi81 r62_101 fd_739_47 (wk_nw g_739_47 rfl hP227 hF229 (uf_739_47 ⟨by omega, by omega⟩) ?_))))))
                    intro M245 hP246 hF247 e248
                    subst hQ; exact wk_ret r62_104 (⟨rfl, hP246, hF247, by have := (mUp_no e248 ((hQ228.at g_739_30 rfl).trans ex739_30) (Or.inr (by decide))); have := (mUp_no e248 ((hQ228.at g_739_31 rfl).trans ex739_31) (Or.inr (by decide))); omega, by have := (mUp_no e248 ((hQ228.at g_739_31 rfl).trans ex739_31) (Or.inr (by decide))); have := (mUp_no e248 ((hQ228.at g_739_33 rfl).trans ex739_33) (Or.inr (by decide))); have := (mUp_no e248 ((hQ228.at g_739_34 rfl).trans ex739_34) (Or.inr (by decide))); omega, by have := (mUp_no e248 ((hQ228.at g_739_31 rfl).trans ex739_31) (Or.inr (by decide))); have := (mUp_no e248 ((hQ228.at g_739_33 rfl).trans ex739_33) (Or.inr (by decide))); have := (mUp_no e248 ((hQ228.at g_739_34 rfl).trans ex739_34) (Or.inr (by decide))); omega, by have := (mUp_no e248 ((hQ228.at g_739_34 rfl).trans ex739_34) (Or.inr (by decide))); have := (mUp_no e248 ((hQ228.at g_739_32 rfl).trans ex739_32) (Or.inr (by decide))); omega, by have := (mUp_no e248 ((hQ228.at g_739_33 rfl).trans ex739_33) (Or.inr (by decide))); omega, by have := (mUp_no e248 e237 (Or.inr (by decide))); omega, by have := (mUp_no e248 ((hQ228.at g_739_45 rfl).trans ex739_45) (Or.inr (by decide))); have := (mUp_no e248 ((hQ228.at g_739_46 rfl).trans ex739_46) (Or.inr (by decide))); omega, by have := (mUp_at e248); have := (mUp_no e248 e237 (Or.inr (by decide))); omega, by have := (mUp_at e248); omega, by have := (mUp_at e248); omega, by have := (mUp_at e248); omega, by have := (mUp_at e248); omega, by have := (mUp_no e248 e241 (Or.inr (by decide))); omega, by have := (mUp_no e248 e241 (Or.inr (by decide))); have := (mUp_no e248 e237 (Or.inr (by decide))); omega, by have := (mUp_no e248 e241 (Or.inr (by decide))); have := (mUp_no e248 e237 (Or.inr (by decide))); omega, by rw [(mUp_at e248), (mUp_no e248 ((hQ228.at g_739_33 rfl).trans ex739_33) (Or.inr (by decide))), (mUp_no e248 e237 (Or.inr (by decide))), (mUp_no e248 e241 (Or.inr (by decide)))]; exact deep_6 xp0 (by omega) hcb (by omega) (by omega) (by omega), (TK_sm (Sm.up e248 g_739_47 rfl) (TK_sm (Sm.fr hQ228 rfl) pp_TK)), (GE_deep e248 (by have := ((hQ228.at g_739_47 rfl).trans ex739_47); omega) pr244), (TXQ_sm (Sm.up e248 g_739_47 rfl) (TXQ_sm (Sm.fr hQ228 rfl) pp_TQ)), (TTP_sm (Sm.up e248 g_739_47 rfl) (TTP_sm (Sm.fr hQ228 rfl) pp_TT))⟩)
                · intro h249
                  exfalso
                  omega
              · intro h250
                refine wk_il1 r62_53 (wk_c2 r62_54 ?_)
                refine wk_iceq r62_56 ⟨by omega, by omega⟩ (by decide) ?_ ?_
                · intro h251
                  refine wk_c1 r62_65 (wk_goto r62_66 (wk_is2 r62_70 rfl ?_))
                  have hcb : cbI T x739_30 x739_33 = 1 := cbI_y (by omega)
                  refine wk_il2 r62_71 ?_
                  refine wk_ifne r62_72 (by decide) ?_ ?_
                  · intro h252
                    refine wk_al0 r62_80 (wk_getfi r62_81 fd_739_47 ex739_47 (wk_c2 r62_84 ?_))
                    refine wk_icne r62_86 ⟨by omega, by omega⟩ (by decide) ?_ ?_
                    · intro h253
                      refine wk_al0 r62_94 (wk_dupr r62_95 (wk_getfi r62_96 fd_739_47 ex739_47 (wk_c1 r62_99 (wk_iadd r62_100 (wk_putfi81 r62_101 fd_739_47 (wk_nw g_739_47 rfl hP0 hF0 (uf_739_47 ⟨by omega, by omega⟩) ?_))))))
                      intro M254 hP255 hF256 e257
                      subst hQ; exact wk_ret r62_104 (⟨rfl, hP255, hF256, by have := (mUp_no e257 ex739_30 (Or.inr (by decide))); have := (mUp_no e257 ex739_31 (Or.inr (by decide))); omega, by have := (mUp_no e257 ex739_31 (Or.inr (by decide))); have := (mUp_no e257 ex739_33 (Or.inr (by decide))); have := (mUp_no e257 ex739_34 (Or.inr (by decide))); omega, by have := (mUp_no e257 ex739_31 (Or.inr (by decide))); have := (mUp_no e257 ex739_33 (Or.inr (by decide))); have := (mUp_no e257 ex739_34 (Or.inr (by decide))); omega, by have := (mUp_no e257 ex739_34 (Or.inr (by decide))); have := (mUp_no e257 ex739_32 (Or.inr (by decide))); omega, by have := (mUp_no e257 ex739_33 (Or.inr (by decide))); omega, by have := (mUp_no e257 ex739_28 (Or.inr (by decide))); omega, by have := (mUp_no e257 ex739_45 (Or.inr (by decide))); have := (mUp_no e257 ex739_46 (Or.inr (by decide))); omega, by have := (mUp_at e257); have := (mUp_no e257 ex739_28 (Or.inr (by decide))); omega, by have := (mUp_at e257); omega, by have := (mUp_at e257); omega, by have := (mUp_at e257); omega, by have := (mUp_at e257); omega, by have := (mUp_no e257 ex739_29 (Or.inr (by decide))); omega, by have := (mUp_no e257 ex739_29 (Or.inr (by decide))); have := (mUp_no e257 ex739_28 (Or.inr (by decide))); omega, by have := (mUp_no e257 ex739_29 (Or.inr (by decide))); have := (mUp_no e257 ex739_28 (Or.inr (by decide))); omega, by rw [(mUp_at e257), (mUp_no e257 ex739_33 (Or.inr (by decide))), (mUp_no e257 ex739_28 (Or.inr (by decide))), (mUp_no e257 ex739_29 (Or.inr (by decide)))]; exact deep_g xp0 (by omega) hcb (by omega) (by omega) (by omega), (TK_sm (Sm.up e257 g_739_47 rfl) pp_TK), (GE_deep e257 (by have := ex739_47; omega) pp_F0), (TXQ_sm (Sm.up e257 g_739_47 rfl) pp_TQ), (TTP_sm (Sm.up e257 g_739_47 rfl) pp_TT)⟩)
                    · intro h258
                      refine wk_al0 r62_89 (wk_c1 r62_90 (wk_cv2 r62_91 kc_739_137 rfl (m8137_739 _ M0 2 x739_28 x739_33 x739_29 hP0 (by decide) (by decide) ex739_28 (by first | with_reducible assumption | omega) (by first | with_reducible assumption | omega) ex739_33 (by first | with_reducible assumption | omega) (by first | with_reducible assumption | omega) ex739_29 (by first | with_reducible assumption | omega) (by first | with_reducible assumption | omega)) (cqV ?_)))
                      rintro M259 ⟨hP260, hQ261, h263, h264, h265, h266, h267, xh268⟩
                      have hF262 : Fr fm_m8062_739 M0 M259 := hF0.tr hQ261 rfl
                      obtain ⟨v269, e270⟩ : ∃ v, M259 739 28 = v := ⟨_, rfl⟩
                      have h271 := (bf_739_28 hP260).1; rw [e270] at h271
                      have h272 := (bf_739_28 hP260).2; rw [e270] at h272
                      obtain ⟨v273, e274⟩ : ∃ v, M259 739 29 = v := ⟨_, rfl⟩
                      have h275 := (bf_739_29 hP260).1; rw [e274] at h275
                      have h276 := (bf_739_29 hP260).2; rw [e274] at h276
                      have pr277 : GE M259 s0 u0 0 1 := GE_mn (Sm.fr hQ261 rfl) (fun q => by have := ex739_28; have := e270; omega) pp_F0
                      refine wk_al0 r62_94 (wk_dupr r62_95 (wk_getfi r62_96 fd_739_47 ((hQ261.at g_739_47 rfl).trans ex739_47) (wk_c1 r62_99 (wk_iadd r62_100 (wk_putfi81 r62_101 fd_739_47 (wk_nw g_739_47 rfl hP260 hF262 (uf_739_47 ⟨by omega, by omega⟩) ?_))))))
                      intro M278 hP279 hF280 e281
                      subst hQ; exact wk_ret r62_104 (⟨rfl, hP279, hF280, by have := (mUp_no e281 ((hQ261.at g_739_30 rfl).trans ex739_30) (Or.inr (by decide))); have := (mUp_no e281 ((hQ261.at g_739_31 rfl).trans ex739_31) (Or.inr (by decide))); omega, by have := (mUp_no e281 ((hQ261.at g_739_31 rfl).trans ex739_31) (Or.inr (by decide))); have := (mUp_no e281 ((hQ261.at g_739_33 rfl).trans ex739_33) (Or.inr (by decide))); have := (mUp_no e281 ((hQ261.at g_739_34 rfl).trans ex739_34) (Or.inr (by decide))); omega, by have := (mUp_no e281 ((hQ261.at g_739_31 rfl).trans ex739_31) (Or.inr (by decide))); have := (mUp_no e281 ((hQ261.at g_739_33 rfl).trans ex739_33) (Or.inr (by decide))); have := (mUp_no e281 ((hQ261.at g_739_34 rfl).trans ex739_34) (Or.inr (by decide))); omega, by have := (mUp_no e281 ((hQ261.at g_739_34 rfl).trans ex739_34) (Or.inr (by decide))); have := (mUp_no e281 ((hQ261.at g_739_32 rfl).trans ex739_32) (Or.inr (by decide))); omega, by have := (mUp_no e281 ((hQ261.at g_739_33 rfl).trans ex739_33) (Or.inr (by decide))); omega, by have := (mUp_no e281 e270 (Or.inr (by decide))); omega, by have := (mUp_no e281 ((hQ261.at g_739_45 rfl).trans ex739_45) (Or.inr (by decide))); have := (mUp_no e281 ((hQ261.at g_739_46 rfl).trans ex739_46) (Or.inr (by decide))); omega, by have := (mUp_at e281); have := (mUp_no e281 e270 (Or.inr (by decide))); omega, by have := (mUp_at e281); omega, by have := (mUp_at e281); omega, by have := (mUp_at e281); omega, by have := (mUp_at e281); omega, by have := (mUp_no e281 e274 (Or.inr (by decide))); omega, by have := (mUp_no e281 e274 (Or.inr (by decide))); have := (mUp_no e281 e270 (Or.inr (by decide))); omega, by have := (mUp_no e281 e274 (Or.inr (by decide))); have := (mUp_no e281 e270 (Or.inr (by decide))); omega, by rw [(mUp_at e281), (mUp_no e281 ((hQ261.at g_739_33 rfl).trans ex739_33) (Or.inr (by decide))), (mUp_no e281 e270 (Or.inr (by decide))), (mUp_no e281 e274 (Or.inr (by decide)))]; exact deep_6 xp0 (by omega) hcb (by omega) (by omega) (by omega), (TK_sm (Sm.up e281 g_739_47 rfl) (TK_sm (Sm.fr hQ261 rfl) pp_TK)), (GE_deep e281 (by have := ((hQ261.at g_739_47 rfl).trans ex739_47); omega) pr277), (TXQ_sm (Sm.up e281 g_739_47 rfl) (TXQ_sm (Sm.fr hQ261 rfl) pp_TQ)), (TTP_sm (Sm.up e281 g_739_47 rfl) (TTP_sm (Sm.fr hQ261 rfl) pp_TT))⟩)
                  · intro h282
                    exfalso
                    omega
                · intro h283
                  refine wk_il1 r62_59 (wk_c2 r62_60 ?_)
                  refine wk_icne r62_62 ⟨by omega, by omega⟩ (by decide) ?_ ?_
                  · intro h284
                    refine wk_c1 r62_69 (wk_is2 r62_70 rfl ?_)
                    have hcb : cbI T x739_30 x739_33 ≠ 1 := cbI_no (by omega) (by omega) (by omega) (by omega) (by omega) (by omega) (by omega) (by omega)
                    refine wk_il2 r62_71 ?_
                    refine wk_ifne r62_72 (by decide) ?_ ?_
                    · intro h285
                      exfalso
                      omega
                    · intro h286
                      refine wk_al0 r62_75 (wk_c1 r62_76 (wk_cv2 r62_77 kc_739_137 rfl (m8137_739 _ M0 1 x739_28 x739_33 x739_29 hP0 (by decide) (by decide) ex739_28 (by first | with_reducible assumption | omega) (by first | with_reducible assumption | omega) ex739_33 (by first | with_reducible assumption | omega) (by first | with_reducible assumption | omega) ex739_29 (by first | with_reducible assumption | omega) (by first | with_reducible assumption | omega)) (cqV ?_)))
                      rintro M287 ⟨hP288, hQ289, h291, h292, h293, h294, h295, xh296⟩
                      have hF290 : Fr fm_m8062_739 M0 M287 := hF0.tr hQ289 rfl
                      obtain ⟨v297, e298⟩ : ∃ v, M287 739 28 = v := ⟨_, rfl⟩
                      have h299 := (bf_739_28 hP288).1; rw [e298] at h299
                      have h300 := (bf_739_28 hP288).2; rw [e298] at h300
                      obtain ⟨v301, e302⟩ : ∃ v, M287 739 29 = v := ⟨_, rfl⟩
                      have h303 := (bf_739_29 hP288).1; rw [e302] at h303
                      have h304 := (bf_739_29 hP288).2; rw [e302] at h304
                      have pr305 : GE M287 s0 u0 0 1 := GE_mn (Sm.fr hQ289 rfl) (fun q => by have := ex739_28; have := e298; omega) pp_F0
                      refine wk_al0 r62_80 (wk_getfi r62_81 fd_739_47 ((hQ289.at g_739_47 rfl).trans ex739_47) (wk_c2 r62_84 ?_))
                      refine wk_icne r62_86 ⟨by omega, by omega⟩ (by decide) ?_ ?_
                      · intro h306
                        refine wk_al0 r62_94 (wk_dupr r62_95 (wk_getfi r62_96 fd_739_47 ((hQ289.at g_739_47 rfl).trans ex739_47) (wk_c1 r62_99 (wk_iadd r62_100 (wk_putfi81 r62_101 fd_739_47 (wk_nw g_739_47 rfl hP288 hF290 (uf_739_47 ⟨by omega, by omega⟩) ?_))))))
                        intro M307 hP308 hF309 e310
                        subst hQ; exact wk_ret r62_104 (⟨rfl, hP308, hF309, by have := (mUp_no e310 ((hQ289.at g_739_30 rfl).trans ex739_30) (Or.inr (by decide))); have := (mUp_no e310 ((hQ289.at g_739_31 rfl).trans ex739_31) (Or.inr (by decide))); omega, by have := (mUp_no e310 ((hQ289.at g_739_31 rfl).trans ex739_31) (Or.inr (by decide))); have := (mUp_no e310 ((hQ289.at g_739_33 rfl).trans ex739_33) (Or.inr (by decide))); have := (mUp_no e310 ((hQ289.at g_739_34 rfl).trans ex739_34) (Or.inr (by decide))); omega, by have := (mUp_no e310 ((hQ289.at g_739_31 rfl).trans ex739_31) (Or.inr (by decide))); have := (mUp_no e310 ((hQ289.at g_739_33 rfl).trans ex739_33) (Or.inr (by decide))); have := (mUp_no e310 ((hQ289.at g_739_34 rfl).trans ex739_34) (Or.inr (by decide))); omega, by have := (mUp_no e310 ((hQ289.at g_739_34 rfl).trans ex739_34) (Or.inr (by decide))); have := (mUp_no e310 ((hQ289.at g_739_32 rfl).trans ex739_32) (Or.inr (by decide))); omega, by have := (mUp_no e310 ((hQ289.at g_739_33 rfl).trans ex739_33) (Or.inr (by decide))); omega, by have := (mUp_no e310 e298 (Or.inr (by decide))); omega, by have := (mUp_no e310 ((hQ289.at g_739_45 rfl).trans ex739_45) (Or.inr (by decide))); have := (mUp_no e310 ((hQ289.at g_739_46 rfl).trans ex739_46) (Or.inr (by decide))); omega, by have := (mUp_at e310); have := (mUp_no e310 e298 (Or.inr (by decide))); omega, by have := (mUp_at e310); omega, by have := (mUp_at e310); omega, by have := (mUp_at e310); omega, by have := (mUp_at e310); omega, by have := (mUp_no e310 e302 (Or.inr (by decide))); omega, by have := (mUp_no e310 e302 (Or.inr (by decide))); have := (mUp_no e310 e298 (Or.inr (by decide))); omega, by have := (mUp_no e310 e302 (Or.inr (by decide))); have := (mUp_no e310 e298 (Or.inr (by decide))); omega, by rw [(mUp_at e310), (mUp_no e310 ((hQ289.at g_739_33 rfl).trans ex739_33) (Or.inr (by decide))), (mUp_no e310 e298 (Or.inr (by decide))), (mUp_no e310 e302 (Or.inr (by decide)))]; exact deep_n xp0 (by omega) hcb (by omega) (by omega), (TK_sm (Sm.up e310 g_739_47 rfl) (TK_sm (Sm.fr hQ289 rfl) pp_TK)), (GE_deep e310 (by have := ((hQ289.at g_739_47 rfl).trans ex739_47); omega) pr305), (TXQ_sm (Sm.up e310 g_739_47 rfl) (TXQ_sm (Sm.fr hQ289 rfl) pp_TQ)), (TTP_sm (Sm.up e310 g_739_47 rfl) (TTP_sm (Sm.fr hQ289 rfl) pp_TT))⟩)
                      · intro h311
                        refine wk_al0 r62_89 (wk_c1 r62_90 (wk_cv2 r62_91 kc_739_137 rfl (m8137_739 _ M287 2 v297 x739_33 v301 hP288 (by decide) (by decide) e298 (by first | with_reducible assumption | omega) (by first | with_reducible assumption | omega) ((hQ289.at g_739_33 rfl).trans ex739_33) (by first | with_reducible assumption | omega) (by first | with_reducible assumption | omega) e302 (by first | with_reducible assumption | omega) (by first | with_reducible assumption | omega)) (cqV ?_)))
                        rintro M312 ⟨hP313, hQ314, h316, h317, h318, h319, h320, xh321⟩
                        have hF315 : Fr fm_m8062_739 M0 M312 := hF290.tr hQ314 rfl
                        obtain ⟨v322, e323⟩ : ∃ v, M312 739 28 = v := ⟨_, rfl⟩
                        have h324 := (bf_739_28 hP313).1; rw [e323] at h324
                        have h325 := (bf_739_28 hP313).2; rw [e323] at h325
                        obtain ⟨v326, e327⟩ : ∃ v, M312 739 29 = v := ⟨_, rfl⟩
                        have h328 := (bf_739_29 hP313).1; rw [e327] at h328
                        have h329 := (bf_739_29 hP313).2; rw [e327] at h329
                        have pr330 : GE M312 s0 u0 0 1 := GE_mn (Sm.fr hQ314 rfl) (fun q => by have := e298; have := e323; omega) pr305
                        refine wk_al0 r62_94 (wk_dupr r62_95 (wk_getfi r62_96 fd_739_47 ((hQ314.at g_739_47 rfl).trans ((hQ289.at g_739_47 rfl).trans ex739_47)) (wk_c1 r62_99 (wk_iadd r62_100 (wk_putfi81 r62_101 fd_739_47 (wk_nw g_739_47 rfl hP313 hF315 (uf_739_47 ⟨by omega, by omega⟩) ?_))))))
                        intro M331 hP332 hF333 e334
                        subst hQ; exact wk_ret r62_104 (⟨rfl, hP332, hF333, by have := (mUp_no e334 ((hQ314.at g_739_30 rfl).trans ((hQ289.at g_739_30 rfl).trans ex739_30)) (Or.inr (by decide))); have := (mUp_no e334 ((hQ314.at g_739_31 rfl).trans ((hQ289.at g_739_31 rfl).trans ex739_31)) (Or.inr (by decide))); omega, by have := (mUp_no e334 ((hQ314.at g_739_31 rfl).trans ((hQ289.at g_739_31 rfl).trans ex739_31)) (Or.inr (by decide))); have := (mUp_no e334 ((hQ314.at g_739_33 rfl).trans ((hQ289.at g_739_33 rfl).trans ex739_33)) (Or.inr (by decide))); have := (mUp_no e334 ((hQ314.at g_739_34 rfl).trans ((hQ289.at g_739_34 rfl).trans ex739_34)) (Or.inr (by decide))); omega, by have := (mUp_no e334 ((hQ314.at g_739_31 rfl).trans ((hQ289.at g_739_31 rfl).trans ex739_31)) (Or.inr (by decide))); have := (mUp_no e334 ((hQ314.at g_739_33 rfl).trans ((hQ289.at g_739_33 rfl).trans ex739_33)) (Or.inr (by decide))); have := (mUp_no e334 ((hQ314.at g_739_34 rfl).trans ((hQ289.at g_739_34 rfl).trans ex739_34)) (Or.inr (by decide))); omega, by have := (mUp_no e334 ((hQ314.at g_739_34 rfl).trans ((hQ289.at g_739_34 rfl).trans ex739_34)) (Or.inr (by decide))); have := (mUp_no e334 ((hQ314.at g_739_32 rfl).trans ((hQ289.at g_739_32 rfl).trans ex739_32)) (Or.inr (by decide))); omega, by have := (mUp_no e334 ((hQ314.at g_739_33 rfl).trans ((hQ289.at g_739_33 rfl).trans ex739_33)) (Or.inr (by decide))); omega, by have := (mUp_no e334 e323 (Or.inr (by decide))); omega, by have := (mUp_no e334 ((hQ314.at g_739_45 rfl).trans ((hQ289.at g_739_45 rfl).trans ex739_45)) (Or.inr (by decide))); have := (mUp_no e334 ((hQ314.at g_739_46 rfl).trans ((hQ289.at g_739_46 rfl).trans ex739_46)) (Or.inr (by decide))); omega, by have := (mUp_at e334); have := (mUp_no e334 e323 (Or.inr (by decide))); omega, by have := (mUp_at e334); omega, by have := (mUp_at e334); omega, by have := (mUp_at e334); omega, by have := (mUp_at e334); omega, by have := (mUp_no e334 e327 (Or.inr (by decide))); omega, by have := (mUp_no e334 e327 (Or.inr (by decide))); have := (mUp_no e334 e323 (Or.inr (by decide))); omega, by have := (mUp_no e334 e327 (Or.inr (by decide))); have := (mUp_no e334 e323 (Or.inr (by decide))); omega, by rw [(mUp_at e334), (mUp_no e334 ((hQ314.at g_739_33 rfl).trans ((hQ289.at g_739_33 rfl).trans ex739_33)) (Or.inr (by decide))), (mUp_no e334 e323 (Or.inr (by decide))), (mUp_no e334 e327 (Or.inr (by decide)))]; exact deep_n xp0 (by omega) hcb (by omega) (by omega), (TK_sm (Sm.up e334 g_739_47 rfl) (TK_sm (Sm.fr hQ314 rfl) (TK_sm (Sm.fr hQ289 rfl) pp_TK))), (GE_deep e334 (by have := ((hQ314.at g_739_47 rfl).trans ((hQ289.at g_739_47 rfl).trans ex739_47)); omega) pr330), (TXQ_sm (Sm.up e334 g_739_47 rfl) (TXQ_sm (Sm.fr hQ314 rfl) (TXQ_sm (Sm.fr hQ289 rfl) pp_TQ))), (TTP_sm (Sm.up e334 g_739_47 rfl) (TTP_sm (Sm.fr hQ314 rfl) (TTP_sm (Sm.fr hQ289 rfl) pp_TT)))⟩)
                  · intro h335
                    refine wk_c1 r62_65 (wk_goto r62_66 (wk_is2 r62_70 rfl ?_))
                    have hcb : cbI T x739_30 x739_33 = 1 := cbI_y (by omega)
                    refine wk_il2 r62_71 ?_
                    refine wk_ifne r62_72 (by decide) ?_ ?_
                    · intro h336
                      refine wk_al0 r62_80 (wk_getfi r62_81 fd_739_47 ex739_47 (wk_c2 r62_84 ?_))
                      refine wk_icne r62_86 ⟨by omega, by omega⟩ (by decide) ?_ ?_
                      · intro h337
                        refine wk_al0 r62_94 (wk_dupr r62_95 (wk_getfi r62_96 fd_739_47 ex739_47 (wk_c1 r62_99 (wk_iadd r62_100 (wk_putfi81 r62_101 fd_739_47 (wk_nw g_739_47 rfl hP0 hF0 (uf_739_47 ⟨by omega, by omega⟩) ?_))))))
                        intro M338 hP339 hF340 e341
                        subst hQ; exact wk_ret r62_104 (⟨rfl, hP339, hF340, by have := (mUp_no e341 ex739_30 (Or.inr (by decide))); have := (mUp_no e341 ex739_31 (Or.inr (by decide))); omega, by have := (mUp_no e341 ex739_31 (Or.inr (by decide))); have := (mUp_no e341 ex739_33 (Or.inr (by decide))); have := (mUp_no e341 ex739_34 (Or.inr (by decide))); omega, by have := (mUp_no e341 ex739_31 (Or.inr (by decide))); have := (mUp_no e341 ex739_33 (Or.inr (by decide))); have := (mUp_no e341 ex739_34 (Or.inr (by decide))); omega, by have := (mUp_no e341 ex739_34 (Or.inr (by decide))); have := (mUp_no e341 ex739_32 (Or.inr (by decide))); omega, by have := (mUp_no e341 ex739_33 (Or.inr (by decide))); omega, by have := (mUp_no e341 ex739_28 (Or.inr (by decide))); omega, by have := (mUp_no e341 ex739_45 (Or.inr (by decide))); have := (mUp_no e341 ex739_46 (Or.inr (by decide))); omega, by have := (mUp_at e341); have := (mUp_no e341 ex739_28 (Or.inr (by decide))); omega, by have := (mUp_at e341); omega, by have := (mUp_at e341); omega, by have := (mUp_at e341); omega, by have := (mUp_at e341); omega, by have := (mUp_no e341 ex739_29 (Or.inr (by decide))); omega, by have := (mUp_no e341 ex739_29 (Or.inr (by decide))); have := (mUp_no e341 ex739_28 (Or.inr (by decide))); omega, by have := (mUp_no e341 ex739_29 (Or.inr (by decide))); have := (mUp_no e341 ex739_28 (Or.inr (by decide))); omega, by rw [(mUp_at e341), (mUp_no e341 ex739_33 (Or.inr (by decide))), (mUp_no e341 ex739_28 (Or.inr (by decide))), (mUp_no e341 ex739_29 (Or.inr (by decide)))]; exact deep_g xp0 (by omega) hcb (by omega) (by omega) (by omega), (TK_sm (Sm.up e341 g_739_47 rfl) pp_TK), (GE_deep e341 (by have := ex739_47; omega) pp_F0), (TXQ_sm (Sm.up e341 g_739_47 rfl) pp_TQ), (TTP_sm (Sm.up e341 g_739_47 rfl) pp_TT)⟩)
                      · intro h342
                        refine wk_al0 r62_89 (wk_c1 r62_90 (wk_cv2 r62_91 kc_739_137 rfl (m8137_739 _ M0 2 x739_28 x739_33 x739_29 hP0 (by decide) (by decide) ex739_28 (by first | with_reducible assumption | omega) (by first | with_reducible assumption | omega) ex739_33 (by first | with_reducible assumption | omega) (by first | with_reducible assumption | omega) ex739_29 (by first | with_reducible assumption | omega) (by first | with_reducible assumption | omega)) (cqV ?_)))
                        rintro M343 ⟨hP344, hQ345, h347, h348, h349, h350, h351, xh352⟩
                        have hF346 : Fr fm_m8062_739 M0 M343 := hF0.tr hQ345 rfl
                        obtain ⟨v353, e354⟩ : ∃ v, M343 739 28 = v := ⟨_, rfl⟩
                        have h355 := (bf_739_28 hP344).1; rw [e354] at h355
                        have h356 := (bf_739_28 hP344).2; rw [e354] at h356
                        obtain ⟨v357, e358⟩ : ∃ v, M343 739 29 = v := ⟨_, rfl⟩
                        have h359 := (bf_739_29 hP344).1; rw [e358] at h359
                        have h360 := (bf_739_29 hP344).2; rw [e358] at h360
                        have pr361 : GE M343 s0 u0 0 1 := GE_mn (Sm.fr hQ345 rfl) (fun q => by have := ex739_28; have := e354; omega) pp_F0
                        refine wk_al0 r62_94 (wk_dupr r62_95 (wk_getfi r62_96 fd_739_47 ((hQ345.at g_739_47 rfl).trans ex739_47) (wk_c1 r62_99 (wk_iadd r62_100 (wk_putfi81 r62_101 fd_739_47 (wk_nw g_739_47 rfl hP344 hF346 (uf_739_47 ⟨by omega, by omega⟩) ?_))))))
                        intro M362 hP363 hF364 e365
                        subst hQ; exact wk_ret r62_104 (⟨rfl, hP363, hF364, by have := (mUp_no e365 ((hQ345.at g_739_30 rfl).trans ex739_30) (Or.inr (by decide))); have := (mUp_no e365 ((hQ345.at g_739_31 rfl).trans ex739_31) (Or.inr (by decide))); omega, by have := (mUp_no e365 ((hQ345.at g_739_31 rfl).trans ex739_31) (Or.inr (by decide))); have := (mUp_no e365 ((hQ345.at g_739_33 rfl).trans ex739_33) (Or.inr (by decide))); have := (mUp_no e365 ((hQ345.at g_739_34 rfl).trans ex739_34) (Or.inr (by decide))); omega, by have := (mUp_no e365 ((hQ345.at g_739_31 rfl).trans ex739_31) (Or.inr (by decide))); have := (mUp_no e365 ((hQ345.at g_739_33 rfl).trans ex739_33) (Or.inr (by decide))); have := (mUp_no e365 ((hQ345.at g_739_34 rfl).trans ex739_34) (Or.inr (by decide))); omega, by have := (mUp_no e365 ((hQ345.at g_739_34 rfl).trans ex739_34) (Or.inr (by decide))); have := (mUp_no e365 ((hQ345.at g_739_32 rfl).trans ex739_32) (Or.inr (by decide))); omega, by have := (mUp_no e365 ((hQ345.at g_739_33 rfl).trans ex739_33) (Or.inr (by decide))); omega, by have := (mUp_no e365 e354 (Or.inr (by decide))); omega, by have := (mUp_no e365 ((hQ345.at g_739_45 rfl).trans ex739_45) (Or.inr (by decide))); have := (mUp_no e365 ((hQ345.at g_739_46 rfl).trans ex739_46) (Or.inr (by decide))); omega, by have := (mUp_at e365); have := (mUp_no e365 e354 (Or.inr (by decide))); omega, by have := (mUp_at e365); omega, by have := (mUp_at e365); omega, by have := (mUp_at e365); omega, by have := (mUp_at e365); omega, by have := (mUp_no e365 e358 (Or.inr (by decide))); omega, by have := (mUp_no e365 e358 (Or.inr (by decide))); have := (mUp_no e365 e354 (Or.inr (by decide))); omega, by have := (mUp_no e365 e358 (Or.inr (by decide))); have := (mUp_no e365 e354 (Or.inr (by decide))); omega, by rw [(mUp_at e365), (mUp_no e365 ((hQ345.at g_739_33 rfl).trans ex739_33) (Or.inr (by decide))), (mUp_no e365 e354 (Or.inr (by decide))), (mUp_no e365 e358 (Or.inr (by decide)))]; exact deep_6 xp0 (by omega) hcb (by omega) (by omega) (by omega), (TK_sm (Sm.up e365 g_739_47 rfl) (TK_sm (Sm.fr hQ345 rfl) pp_TK)), (GE_deep e365 (by have := ((hQ345.at g_739_47 rfl).trans ex739_47); omega) pr361), (TXQ_sm (Sm.up e365 g_739_47 rfl) (TXQ_sm (Sm.fr hQ345 rfl) pp_TQ)), (TTP_sm (Sm.up e365 g_739_47 rfl) (TTP_sm (Sm.fr hQ345 rfl) pp_TT))⟩)
                    · intro h366
                      exfalso
                      omega
  · intro h367
    subst hQ; exact wk_ret r62_7 (⟨rfl, hP0, hF0, by have := ex739_30; have := ex739_31; omega, by have := ex739_31; have := ex739_33; have := ex739_34; omega, by have := ex739_31; have := ex739_33; have := ex739_34; omega, by have := ex739_34; have := ex739_32; omega, by have := ex739_33; omega, by have := ex739_28; omega, by have := ex739_45; have := ex739_46; omega, by have := ex739_47; have := ex739_28; omega, by have := ex739_47; omega, by have := ex739_47; omega, by have := ex739_47; omega, by have := ex739_47; omega, by have := ex739_29; omega, by have := ex739_29; have := ex739_28; omega, by have := ex739_29; have := ex739_28; omega, by rw [ex739_47, ex739_33, ex739_28, ex739_29]; exact deep_b xp0 (by omega) (by omega) (by omega), pp_TK, (GE_vac ex739_28 (by omega)), pp_TQ, pp_TT⟩)
