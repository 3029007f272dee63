/-! ===== written by program (wip/layer5/law5.py): the law, call by call, class and model alike ===== -/
/-- the script's numbers -/
def scf (B : eB) (i : Int) : Int := ((B (1099511627776 + i.toNat)).1 : Int) - 2147483648
theorem wk_saldf {B : eB} {d y pc pc2 : Nat} {L : List (Option eV)} {st : List eV} {M : Mm} {Q : Nat → eV → Mm → Prop} {a b c : Nat} {n i : Int} (hB : SB B n) (hr : Rw y pc pc2 1 97 a b c) (hi : 0 ≤ i ∧ i < n) (hk : -2147483648 ≤ scf B i → scf B i < 2147483648 → Wp B d y pc2 L (I (scf B i) :: st) M Q) : Wp B d y pc L (I i :: R 4096 :: st) M Q := by
  obtain ⟨h0, h1, h2, h3, h4⟩ := hB
  obtain ⟨x, rfl⟩ := Int.eq_ofNat_of_zero_le hi.1
  obtain ⟨q1, q2⟩ := h4 x hi.2
  have es : scf B (x : Int) = ((B (1099511627776 + x)).1 : Int) - 2147483648 := by unfold scf; rw [Int.toNat_natCast]
  rw [es] at hk
  obtain ⟨u, hu⟩ : ∃ u, (B (1099511627776 + x)).1 = u := ⟨_, rfl⟩
  rw [hu] at q1 q2 hk
  refine r_plain hr rfl (fun E lo h hV _ => ?_) (hk (by omega) (by omega))
  have e : cd (x : Int) = x := (cd_of_nat (by omega)).symm
  show cond (Nat.beq 4096 4096 && Nat.beq (B 0).2 1 && Nat.ble (cd (x : Int) + 1) (B 0).1 && Nat.ble (cd (x : Int)) 4095 && Nat.beq (B (1099511627776 + cd (x : Int))).1 (B (1099511627776 + cd (x : Int))).2 && l32 (B (1099511627776 + cd (x : Int))).1) (eN (pc + 1) lo (.inl (((B (1099511627776 + cd (x : Int))).1 + 2147483648) % 4294967296) :: st) h) none = _
  rw [e, hu, q1, h3, h2, show Nat.beq u u = true from Nat.beq_refl u, show Nat.ble (x + 1) n.toNat = true from Nat.ble_eq_true_of_le (by omega), show Nat.ble x 4095 = true from Nat.ble_eq_true_of_le (by omega), show l32 u = true from Nat.ble_eq_true_of_le (by omega)]
  show eN (pc + 1) lo (.inl ((u + 2147483648) % 4294967296) :: st) h = eN (pc + 1) lo (.inl (cd ((u : Int) - 2147483648)) :: st) h
  refine congrArg (fun x : Nat => eN (pc + 1) lo ((Sum.inl x : eV) :: st) h) ?_
  unfold cd
  omega
/-- what holds between two calls -/
def INV (M : Mm) (i : Int) : Prop := Pw M ∧ M 0 1 = M 739 27 ∧ WS M ∧ QW M ∧ 0 ≤ M (-1) 0 ∧ 6 * M (-1) 0 ≤ i
theorem RB_of {M : Mm} (h : Pw M) : RB5 M := ⟨bf_2_1 h, fun p a b => by have := ba_3 h a b; omega, bf_2_3 h, bf_739_13 h, bf_739_15 h, bf_10_9 h, (bf_739_21 h).1, fun s a b => CL_st h (Or.inr (by omega)) (bC_1 h (Or.inr (by omega))).2, CL_st h (Or.inl rfl) (bC_1 h (Or.inl rfl)).2, bf_739_43 h⟩
theorem RWC_ok {M : Mm} (h : RWC M) (s : Int) (a : 0 ≤ s) (b : s < M 739 13) : okH 30 (CL M (679 + 2 * s)) 0 := by
  obtain ⟨O, -, -, -, v, -, hh⟩ := h s a b
  exact okH_mono (by decide) _ _ (hh 0 (Int.le_refl _)).1
theorem g769_ex : ∃ k, grp 769 0 = k ∧ Nat.testBit fg_CK k = false ∧ Nat.testBit fg_CD k = false ∧ Nat.testBit fg_CC k = false := ⟨260, gr_769 (by decide) (by decide) _, rfl, rfl, rfl⟩
theorem TA_mv {u u2 v v2 : Int → Int} {t t2 : Int} (h : TA u v t) (hu : ∀ k, u2 k = u k) (hv : ∀ k, v2 k = v k) (ht : t2 ≤ t) : TA u2 v2 t2 := fun k a b => by rw [hu k, hv k]; exact h k a (by omega)
/-- what holds between two calls: the tapes hold the same, as many people, sentences, questions, the same place of a fault -/
def INV4 (M : Mm) (i : Int) : Prop := INV M i ∧ TA (fun k => M 1 k) (fun k => M 755 k) (M 0 1) ∧ M 0 9 = M 739 13 ∧ M 2 1 = M 739 1 ∧ M 0 5 = M 739 29 ∧ M 0 11 = M 739 21
theorem INV4_on {M : Mm} {i : Int} (h : INV4 M i) : INV4 M (i + 6) := ⟨⟨h.1.1, h.1.2.1, h.1.2.2.1, h.1.2.2.2.1, h.1.2.2.2.2.1, by have := h.1.2.2.2.2.2; omega⟩, h.2⟩
def INV5 (M : Mm) (i : Int) : Prop := INV4 M i ∧ RELW M
theorem s0_156 : Rw 0 156 157 1 14 1 0 0 := rw_of (by decide +kernel)
theorem s0_157 : Rw 0 157 158 1 14 0 0 0 := rw_of (by decide +kernel)
theorem s0_158 : Rw 0 158 160 2 11 4 0 0 := rw_of (by decide +kernel)
theorem s0_160 : Rw 0 160 161 1 1 (cd 1) 2 0 := rw_of (by decide +kernel)
theorem s0_161 : Rw 0 161 162 1 30 0 0 0 := rw_of (by decide +kernel)
theorem s0_162 : Rw 0 162 163 1 97 0 0 0 := rw_of (by decide +kernel)
theorem s0_163 : Rw 0 163 164 1 14 0 0 0 := rw_of (by decide +kernel)
theorem s0_164 : Rw 0 164 166 2 11 4 0 0 := rw_of (by decide +kernel)
theorem s0_166 : Rw 0 166 167 1 1 (cd 2) 3 0 := rw_of (by decide +kernel)
theorem s0_167 : Rw 0 167 168 1 30 0 0 0 := rw_of (by decide +kernel)
theorem s0_168 : Rw 0 168 169 1 97 0 0 0 := rw_of (by decide +kernel)
theorem s0_169 : Rw 0 169 170 1 14 0 0 0 := rw_of (by decide +kernel)
theorem s0_170 : Rw 0 170 172 2 11 4 0 0 := rw_of (by decide +kernel)
theorem s0_172 : Rw 0 172 173 1 1 (cd 3) 4 0 := rw_of (by decide +kernel)
theorem s0_173 : Rw 0 173 174 1 30 0 0 0 := rw_of (by decide +kernel)
theorem s0_174 : Rw 0 174 175 1 97 0 0 0 := rw_of (by decide +kernel)
theorem s0_175 : Rw 0 175 176 1 14 0 0 0 := rw_of (by decide +kernel)
theorem s0_176 : Rw 0 176 178 2 11 4 0 0 := rw_of (by decide +kernel)
theorem s0_178 : Rw 0 178 179 1 1 (cd 4) 5 0 := rw_of (by decide +kernel)
theorem s0_179 : Rw 0 179 180 1 30 0 0 0 := rw_of (by decide +kernel)
theorem s0_180 : Rw 0 180 181 1 97 0 0 0 := rw_of (by decide +kernel)
theorem s0_181 : Rw 0 181 182 1 14 0 0 0 := rw_of (by decide +kernel)
theorem s0_182 : Rw 0 182 184 2 11 4 0 0 := rw_of (by decide +kernel)
theorem s0_184 : Rw 0 184 185 1 1 (cd 5) 6 0 := rw_of (by decide +kernel)
theorem s0_185 : Rw 0 185 186 1 30 0 0 0 := rw_of (by decide +kernel)
theorem s0_186 : Rw 0 186 187 1 97 0 0 0 := rw_of (by decide +kernel)
theorem s0_187 : Rw 0 187 190 3 100 18 6 74 := rw_of (by decide +kernel)
theorem kc_0_18 : Kc 0 18 := kc_of (by decide) (by decide +kernel)
theorem s0_190 : Rw 0 190 191 1 53 0 0 0 := rw_of (by decide +kernel)
theorem s0_191 : Rw 0 191 192 1 14 2 0 0 := rw_of (by decide +kernel)
theorem s0_192 : Rw 0 192 193 1 14 0 0 0 := rw_of (by decide +kernel)
theorem s0_193 : Rw 0 193 195 2 11 4 0 0 := rw_of (by decide +kernel)
theorem s0_195 : Rw 0 195 196 1 1 (cd 1) 2 0 := rw_of (by decide +kernel)
theorem s0_196 : Rw 0 196 197 1 30 0 0 0 := rw_of (by decide +kernel)
theorem s0_197 : Rw 0 197 198 1 97 0 0 0 := rw_of (by decide +kernel)
theorem s0_198 : Rw 0 198 199 1 14 0 0 0 := rw_of (by decide +kernel)
theorem s0_199 : Rw 0 199 201 2 11 4 0 0 := rw_of (by decide +kernel)
theorem s0_201 : Rw 0 201 202 1 1 (cd 2) 3 0 := rw_of (by decide +kernel)
theorem s0_202 : Rw 0 202 203 1 30 0 0 0 := rw_of (by decide +kernel)
theorem s0_203 : Rw 0 203 204 1 97 0 0 0 := rw_of (by decide +kernel)
theorem s0_204 : Rw 0 204 205 1 14 0 0 0 := rw_of (by decide +kernel)
theorem s0_205 : Rw 0 205 207 2 11 4 0 0 := rw_of (by decide +kernel)
theorem s0_207 : Rw 0 207 208 1 1 (cd 3) 4 0 := rw_of (by decide +kernel)
theorem s0_208 : Rw 0 208 209 1 30 0 0 0 := rw_of (by decide +kernel)
theorem s0_209 : Rw 0 209 210 1 97 0 0 0 := rw_of (by decide +kernel)
theorem s0_210 : Rw 0 210 211 1 14 0 0 0 := rw_of (by decide +kernel)
theorem s0_211 : Rw 0 211 213 2 11 4 0 0 := rw_of (by decide +kernel)
theorem s0_213 : Rw 0 213 214 1 1 (cd 4) 5 0 := rw_of (by decide +kernel)
theorem s0_214 : Rw 0 214 215 1 30 0 0 0 := rw_of (by decide +kernel)
theorem s0_215 : Rw 0 215 216 1 97 0 0 0 := rw_of (by decide +kernel)
theorem s0_216 : Rw 0 216 217 1 14 0 0 0 := rw_of (by decide +kernel)
theorem s0_217 : Rw 0 217 219 2 11 4 0 0 := rw_of (by decide +kernel)
theorem s0_219 : Rw 0 219 220 1 1 (cd 5) 6 0 := rw_of (by decide +kernel)
theorem s0_220 : Rw 0 220 221 1 30 0 0 0 := rw_of (by decide +kernel)
theorem s0_221 : Rw 0 221 222 1 97 0 0 0 := rw_of (by decide +kernel)
theorem s0_222 : Rw 0 222 225 3 100 70 6 78 := rw_of (by decide +kernel)
theorem kc_739_70 : Kc 739 70 := kc_of (by decide) (by decide +kernel)
theorem s0_919 : Rw 0 919 922 3 22 4 (cd 6) 32774 := rw_of (by decide +kernel)
theorem s0_922 : Rw 0 922 925 3 60 23 0 0 := rw_of (by decide +kernel)
theorem s0_225 : Rw 0 225 226 1 53 0 0 0 := rw_of (by decide +kernel)
theorem s0_226 : Rw 0 226 229 3 60 919 0 0 := rw_of (by decide +kernel)
theorem law5_feed {B : eB} {n i : Int} {d : Nat} {M : Mm} {Q : Nat → eV → Mm → Prop} (hB : SB B n) (h0 : 0 ≤ i) (h1 : i ≤ n - 6) (hI : INV5 M i) (hk : ∀ M2, INV5 M2 (i + 6) → Wp B (d + 80) 0 23 [some (R 4096), some (R 0), some (R 739), some (R 769), some (I (i + 6)), none, none] [] M2 Q) : Wp B (d + 80) 0 156 [some (R 4096), some (R 0), some (R 739), some (R 769), some (I i), none, none] [] M Q := by
  obtain ⟨⟨⟨hP, hT, hW, hQW, hg0, hg9⟩, hA, i9, i2, i5, i11⟩, hR⟩ := hI
  have hB0 := RB_of hP
  obtain ⟨Kf9, hk9, hd9, hc9, hq9⟩ := id hR
  refine wk_al1 s0_156 (wk_al0 s0_157 (wk_il4 s0_158 (wk_c1 s0_160 (wk_iadd s0_161 (wk_saldf hB s0_162 ⟨by omega, by omega⟩ ?_)))))
  intro a1 b1
  refine wk_al0 s0_163 (wk_il4 s0_164 (wk_c1 s0_166 (wk_iadd s0_167 (wk_saldf hB s0_168 ⟨by omega, by omega⟩ ?_))))
  intro a2 b2
  refine wk_al0 s0_169 (wk_il4 s0_170 (wk_c1 s0_172 (wk_iadd s0_173 (wk_saldf hB s0_174 ⟨by omega, by omega⟩ ?_))))
  intro a3 b3
  refine wk_al0 s0_175 (wk_il4 s0_176 (wk_c1 s0_178 (wk_iadd s0_179 (wk_saldf hB s0_180 ⟨by omega, by omega⟩ ?_))))
  intro a4 b4
  refine wk_al0 s0_181 (wk_il4 s0_182 (wk_c1 s0_184 (wk_iadd s0_185 (wk_saldf hB s0_186 ⟨by omega, by omega⟩ ?_))))
  intro a5 b5
  refine wk_cv6 s0_187 kc_0_18 rfl (m7018_0 _ M (scf B (i + 1)) (scf B (i + 2)) (scf B (i + 3)) (scf B (i + 4)) (scf B (i + 5)) (M 0 1) hP (by omega) (by omega) (by omega) (by omega) (by omega) (by omega) (by omega) (by omega) (by omega) (by omega) rfl (bf_0_1 hP).1 (bf_0_1 hP).2) (cqI ?_)
  rintro z1 M1 ⟨hP1, hF1, x0, x1, x2, x3, x4⟩
  have hB1 := RB_of hP1
  refine wk_popi s0_190 (wk_al2 s0_191 (wk_al0 s0_192 (wk_il4 s0_193 (wk_c1 s0_195 (wk_iadd s0_196 (wk_saldf hB s0_197 ⟨by omega, by omega⟩ ?_))))))
  intro a6 b6
  refine wk_al0 s0_198 (wk_il4 s0_199 (wk_c1 s0_201 (wk_iadd s0_202 (wk_saldf hB s0_203 ⟨by omega, by omega⟩ ?_))))
  intro a7 b7
  refine wk_al0 s0_204 (wk_il4 s0_205 (wk_c1 s0_207 (wk_iadd s0_208 (wk_saldf hB s0_209 ⟨by omega, by omega⟩ ?_))))
  intro a8 b8
  refine wk_al0 s0_210 (wk_il4 s0_211 (wk_c1 s0_213 (wk_iadd s0_214 (wk_saldf hB s0_215 ⟨by omega, by omega⟩ ?_))))
  intro a9 b9
  refine wk_al0 s0_216 (wk_il4 s0_217 (wk_c1 s0_219 (wk_iadd s0_220 (wk_saldf hB s0_221 ⟨by omega, by omega⟩ ?_))))
  intro a10 b10
  have hW1 : WS M1 := WS_sm (Sm.fr hF1 rfl) hW
  have hQ1 : QW M1 := QW_sm (Sm.fr hF1 rfl) hQW
  refine wk_cv6 s0_222 kc_739_70 rfl (m8070_739 _ M1 (scf B (i + 1)) (scf B (i + 2)) (scf B (i + 3)) (scf B (i + 4)) (scf B (i + 5)) (M1 739 27) hP1 (by omega) (by omega) (by omega) (by omega) (by omega) (by omega) (by omega) (by omega) (by omega) (by omega) rfl (bf_739_27 hP1).1 (bf_739_27 hP1).2) (cqI ?_)
  rintro z2 M2 ⟨hP2, hF2, y0, y1, y2, y3, y4⟩
  have hg2 := hF2.at g_below rfl
  have hg1 := hF1.at g_below rfl
  have v_0_1 := hF2.at g_0_1 rfl
  have u_0_9 := hF1.at g_0_9 rfl
  have v_0_9 := hF2.at g_0_9 rfl
  have u_2_1 := hF1.at g_2_1 rfl
  have v_2_1 := hF2.at g_2_1 rfl
  have u_0_5 := hF1.at g_0_5 rfl
  have v_0_5 := hF2.at g_0_5 rfl
  have u_0_11 := hF1.at g_0_11 rfl
  have v_0_11 := hF2.at g_0_11 rfl
  have u_739_27 := hF1.at g_739_27 rfl
  have u_739_13 := hF1.at g_739_13 rfl
  have v_739_13 := hF2.at g_739_13 rfl
  have u_739_1 := hF1.at g_739_1 rfl
  have v_739_1 := hF2.at g_739_1 rfl
  have u_739_29 := hF1.at g_739_29 rfl
  have v_739_29 := hF2.at g_739_29 rfl
  have u_739_21 := hF1.at g_739_21 rfl
  have v_739_21 := hF2.at g_739_21 rfl
  have hb := bf_0_1 hP
  have hA2 : TA (fun k => M2 1 k) (fun k => M2 755 k) (M2 0 1) := by
    by_cases q : M 0 1 ≤ 480
    · have a9 : TA (fun k => M 1 k) (fun k => M1 755 k) (M 0 1) := TA_mv hA (fun _ => rfl) (fun k => hF1.at (ga_755 k) rfl) (by omega)
      have e9 : M1 739 27 = M 0 1 := by omega
      have f9 := y3 (by omega)
      rw [e9] at f9
      have b9 := TA_fd a9 hb.1 (x3 q) f9
      exact TA_mv b9 (fun k => hF2.at (ga_1 k) rfl) (fun _ => rfl) (by omega)
    · exact TA_mv hA (fun k => (hF2.at (ga_1 k) rfl).trans (x4 (by omega) k)) (fun k => (y4 (by omega) k).trans (hF1.at (ga_755 k) rfl)) (by omega)
  have hR2 : RELW M2 := R5_2 hR hB0 hB1 (Sm.fr hF1 rfl) (Sm.fr hF1 rfl) (Sm.fr hF1 rfl) (Sm.fr hF1 rfl) (Sm.fr hF1 rfl) (Sm.fr hF1 rfl) (Sm.fr hF1 rfl) (Sm.fr hF1 rfl) (Sm.fr hF2 rfl) (Sm.fr hF2 rfl) (Sm.fr hF2 rfl) (Sm.fr hF2 rfl) (MSK_sm (Sm.fr hF2 rfl)) (MSD_sm (Sm.fr hF2 rfl)) (MSC_sm (Sm.fr hF2 rfl)) (MSQ_sm (Sm.fr hF2 rfl))
  have hI2 : INV5 M2 (i + 6) := ⟨⟨⟨hP2, by omega, WS_sm (Sm.fr hF2 rfl) hW1, QW_sm (Sm.fr hF2 rfl) hQ1, by omega, by omega⟩, hA2, by omega, by omega, by omega, by omega⟩, hR2⟩
  exact wk_popi s0_225 (wk_goto s0_226 (wk_inc4 s0_919 rfl (wk_goto s0_922 (wp_fg (le_s (le_s (le_s (le_s (le_s (le_s (le_s le_0))))))) (hk M2 hI2)))))
theorem s0_229 : Rw 0 229 230 1 14 1 0 0 := rw_of (by decide +kernel)
theorem s0_230 : Rw 0 230 231 1 14 0 0 0 := rw_of (by decide +kernel)
theorem s0_231 : Rw 0 231 233 2 11 4 0 0 := rw_of (by decide +kernel)
theorem s0_233 : Rw 0 233 234 1 1 (cd 1) 2 0 := rw_of (by decide +kernel)
theorem s0_234 : Rw 0 234 235 1 30 0 0 0 := rw_of (by decide +kernel)
theorem s0_235 : Rw 0 235 236 1 97 0 0 0 := rw_of (by decide +kernel)
theorem s0_236 : Rw 0 236 237 1 14 3 0 0 := rw_of (by decide +kernel)
theorem s0_237 : Rw 0 237 240 3 113 253 3 79 := rw_of (by decide +kernel)
theorem s0_240 : Rw 0 240 242 2 17 5 0 0 := rw_of (by decide +kernel)
theorem s0_242 : Rw 0 242 243 1 14 2 0 0 := rw_of (by decide +kernel)
theorem s0_243 : Rw 0 243 244 1 14 0 0 0 := rw_of (by decide +kernel)
theorem s0_244 : Rw 0 244 246 2 11 4 0 0 := rw_of (by decide +kernel)
theorem s0_246 : Rw 0 246 247 1 1 (cd 1) 2 0 := rw_of (by decide +kernel)
theorem s0_247 : Rw 0 247 248 1 30 0 0 0 := rw_of (by decide +kernel)
theorem s0_248 : Rw 0 248 249 1 97 0 0 0 := rw_of (by decide +kernel)
theorem s0_249 : Rw 0 249 252 3 100 91 2 84 := rw_of (by decide +kernel)
theorem kc_739_91 : Kc 739 91 := kc_of (by decide) (by decide +kernel)
theorem s0_252 : Rw 0 252 254 2 17 6 0 0 := rw_of (by decide +kernel)
theorem s0_254 : Rw 0 254 257 3 60 919 0 0 := rw_of (by decide +kernel)
theorem law5_island {B : eB} {n i : Int} {d : Nat} {M : Mm} {Q : Nat → eV → Mm → Prop} (hB : SB B n) (h0 : 0 ≤ i) (h1 : i ≤ n - 6) (hI : INV5 M i) (hk : ∀ M2, INV5 M2 (i + 6) → Wp B (d + 80) 0 23 [some (R 4096), some (R 0), some (R 739), some (R 769), some (I (i + 6)), none, none] [] M2 Q) : Wp B (d + 80) 0 229 [some (R 4096), some (R 0), some (R 739), some (R 769), some (I i), none, none] [] M Q := by
  obtain ⟨⟨⟨hP, hT, hW, hQW, hg0, hg9⟩, hA, i9, i2, i5, i11⟩, hR⟩ := hI
  have hB0 := RB_of hP
  obtain ⟨Kf9, hk9, hd9, hc9, hq9⟩ := id hR
  refine wk_al1 s0_229 (wk_al0 s0_230 (wk_il4 s0_231 (wk_c1 s0_233 (wk_iadd s0_234 (wk_saldf hB s0_235 ⟨by omega, by omega⟩ ?_)))))
  intro a1 b1
  refine wk_al3 s0_236 (wk_cs113_3 s0_237 rfl (lw5_island _ M (scf B (i + 1)) (M 0 1) (M 0 9) (M 0 5) (M 2 1) (M 0 11) (fun k => M 755 k) hP (by omega) (by omega) rfl (bf_0_1 hP).1 (bf_0_1 hP).2 rfl (bf_0_9 hP).1 (bf_0_9 hP).2 rfl (bf_0_5 hP).1 (bf_0_5 hP).2 rfl (by have := bf_2_1 hP; have := bf_739_1 hP; omega) (bf_2_1 hP).2 rfl (bf_0_11 hP).1 (bf_0_11 hP).2 (fun k a b => hA k a b)) (cqI ?_))
  rintro z1 M1 ⟨hP1, hF1, x0, x1, x2, x3, x4⟩
  have hB1 := RB_of hP1
  refine wk_is5 s0_240 rfl (wk_al2 s0_242 (wk_al0 s0_243 (wk_il4 s0_244 (wk_c1 s0_246 (wk_iadd s0_247 (wk_saldf hB s0_248 ⟨by omega, by omega⟩ ?_))))))
  intro a2 b2
  have hz769 : ∀ (v : Int) (Mp : Mm), M1 = mUp Mp 769 0 v → M1 769 0 = v := fun v Mp e => mUp_at e
  obtain ⟨zc, hzl, hzu, hzo, hS, hC⟩ : ∃ zc : Int, 0 ≤ zc ∧ zc ≤ 6 ∧ (z1 = 0 → M1 769 0 = ((zc % 18446744073709551616).toNat : Int)) ∧ INR (fun k => M 755 k) (scf B (i + 1)) (M 0 1) (M 2 1) (M 0 9) (M 0 11) (M 0 5) z1 zc (M1 2 1) (M1 0 9) (M1 0 11) (M1 0 5) ∧ ((z1 = 1 ∧ ∀ a i : Int, 0 ≤ a → M1 a i = M a i) ∨ (z1 = 0 ∧ ∃ (v : Int) (Mp : Mm), M1 = mUp Mp 769 0 v ∧ RB5 Mp ∧ (zc = 0 → ICP (fun k => M 755 k) (scf B (i + 1)) Mp) ∧ (zc ≠ 0 → (Sm fg_CK M Mp ∧ Sm fg_CD M Mp ∧ Sm fg_CQ M Mp) ∧ ∀ c : Int, isC c → c ≠ 4 → CL Mp c = CL M c))) := by
    rcases x4 with ⟨hk1, t0, t1⟩ | ⟨hk1, z, Mp, f0, f1, f2, f3, f4, f5, f6, f7, f8, f9, f10⟩
    · exact ⟨0, by decide, by decide, fun q => by omega, INR_t ⟨t0.2.1, hk1, t0.2.2.2.2.1, t0.2.2.1, t0.2.2.2.2.2, t0.2.2.2.1⟩, Or.inl ⟨hk1, t1⟩⟩
    · exact ⟨z, f3, f4, fun _ => hz769 _ _ f0, by rw [hk1, show M1 2 1 = Mp 2 1 by rw [f0, mUp_ne (Or.inl (by decide))], show M1 0 9 = Mp 0 9 by rw [f0, mUp_ne (Or.inl (by decide))], show M1 0 11 = Mp 0 11 by rw [f0, mUp_ne (Or.inl (by decide))], show M1 0 5 = Mp 0 5 by rw [f0, mUp_ne (Or.inl (by decide))]]; exact f8, Or.inr ⟨hk1, _, Mp, f0, RB_of f1, (fun q0 => by obtain ⟨c1, c2, c3, c4, c5, c6, c7, c8, c9, c10, c11, -⟩ := f9 q0; exact ⟨⟨c1, c2, c3, c4, c5, c6, c7⟩, c10, c11⟩), (fun q0 => by obtain ⟨d1, d2⟩ := f10 q0; exact ⟨⟨Sm_sub d1 rfl, Sm_sub d1 rfl, Sm_sub d1 rfl⟩, d2⟩)⟩⟩
  have h01 : (z1 = 1 ∧ M1 0 1 = M 0 1 ∧ ((scf B (i + 1)) < 0 ∨ M 0 1 < (scf B (i + 1)))) ∨ (z1 = 0 ∧ M1 0 1 = 0 ∧ 0 ≤ (scf B (i + 1)) ∧ (scf B (i + 1)) ≤ M 0 1) := by
    have b01 := bf_0_1 hP1
    rcases x4 with ⟨hk1, t0, t1⟩ | ⟨hk1, z, Mp, f0, f1, f2, f3, f4, f5, f6, f7, f8, f9, f10⟩
    · exact Or.inl ⟨hk1, t0.1, t0.2.1⟩
    · have e01 : M1 0 1 = Mp 0 1 := by rw [f0, mUp_ne (Or.inl (by decide))]
      exact Or.inr ⟨hk1, by omega, by omega, by omega⟩
  clear x4
  have hCn := fun _ : Nat => hC
  clear hC
  have hW1 : WS M1 := WS_sm (Sm.fr hF1 rfl) hW
  have hQ1 : QW M1 := QW_sm (Sm.fr hF1 rfl) hQW
  have hHF : 0 ≤ (scf B (i + 1)) → (scf B (i + 1)) ≤ M1 739 27 → HFM (fun k => M 755 k) (scf B (i + 1)) := by
    intro q1 q2
    rcases hCn 0 with ⟨hk1, -⟩ | ⟨hk1, v, Mp, e, -, c1, -⟩
    · exfalso
      have w27 : M1 739 27 = M 0 1 := by have := hF1.at g_739_27 rfl; omega
      rcases hS with ⟨s1, s2, -⟩ | ⟨-, -, s3, -⟩ <;> omega
    · by_cases q3 : zc = 0
      · obtain ⟨⟨⟨F, i1, i2⟩, -⟩, -⟩ := c1 q3
        exact HFM_of i1 i2
      · rcases hS with ⟨-, s2, -⟩ | ⟨-, -, -, pp, s4, -⟩
        · omega
        · exact HFM_no s4 q3
  refine wk_cv2 s0_249 kc_739_91 rfl (n8091_739 _ M1 (scf B (i + 1)) (M1 739 27) (M1 739 29) (M1 739 13) (M1 739 1) (M1 739 21) (fun k => M 755 k) hP1 (by omega) (by omega) rfl (bf_739_27 hP1).1 (bf_739_27 hP1).2 rfl (bf_739_29 hP1).1 (bf_739_29 hP1).2 rfl (bf_739_13 hP1).1 (bf_739_13 hP1).2 rfl (bf_739_1 hP1).1 (bf_739_1 hP1).2 rfl (bf_739_21 hP1).1 (bf_739_21 hP1).2 (fun k _ _ => hF1.at (ga_755 k) rfl) hHF hW1 hQ1) (cqI ?_)
  rintro z2 M2 ⟨hP2, hF2, y0, y1, y2, y3, y4, y5, y6, y7⟩
  have y4n := fun _ : Nat => y4
  clear y4
  have y5n := fun _ : Nat => y5
  clear y5
  clear hHF
  have hg2 := hF2.at g_below rfl
  have hg1 : True := trivial
  have v_0_1 := hF2.at g_0_1 rfl
  have v_0_9 := hF2.at g_0_9 rfl
  have v_2_1 := hF2.at g_2_1 rfl
  have v_0_5 := hF2.at g_0_5 rfl
  have v_0_11 := hF2.at g_0_11 rfl
  have u_739_27 := hF1.at g_739_27 rfl
  have u_739_13 := hF1.at g_739_13 rfl
  have u_739_1 := hF1.at g_739_1 rfl
  have u_739_29 := hF1.at g_739_29 rfl
  have u_739_21 := hF1.at g_739_21 rfl
  have hb := bf_0_1 hP
  have w_0 : M1 739 27 = M 0 1 := by omega
  have w_1 : M1 739 1 = M 2 1 := by omega
  have w_2 : M1 739 13 = M 0 9 := by omega
  have w_3 : M1 739 21 = M 0 11 := by omega
  have w_4 : M1 739 29 = M 0 5 := by omega
  have hS2 := y3
  rw [w_0, w_1, w_2, w_3, w_4] at hS2
  have hO := INR_one hS hS2
  obtain ⟨o0, o1, o2, o3, o4, oz⟩ := hO
  have hA2 : TA (fun k => M2 1 k) (fun k => M2 755 k) (M2 0 1) := TA_mv hA (fun k => (hF2.at (ga_1 k) rfl).trans (hF1.at (ga_1 k) rfl)) (fun k => (hF2.at (ga_755 k) rfl).trans (hF1.at (ga_755 k) rfl)) (by omega)
  have hB2 := RB_of hP2
  have hR2 : RELW M2 := R5_isl (T := (fun k => M 755 k)) (n := (scf B (i + 1))) (k := z1) (z1 := zc) (z2 := z2) hR hB0 hB1 hB2 (hCn 0) ⟨fun q0 q1 => by obtain ⟨F, K, j1, j2, j3, j4, j5, j6, j7, j8, j9, -⟩ := y4n 0 q0 q1; exact ⟨⟨F, K, j1, j2, j4, j5⟩, j6, j7, j8, j9⟩, fun q0 => by have d1 := y5n 0 q0; exact ⟨Sm_sub d1 rfl, Sm_sub d1 rfl, Sm_sub d1 rfl, Sm_sub d1 rfl⟩⟩ o0 oz (hF1.at g_0_14 rfl) (hF2.at g_739_25 rfl) (Sm.fr hF1 rfl) (Sm.fr hF1 rfl) (Sm.fr hF1 rfl) (Sm.fr hF1 rfl) (Sm.fr hF2 rfl) (Sm.fr hF2 rfl) (Sm.fr hF2 rfl) (Sm.fr hF2 rfl)
  have hI2 : INV5 M2 (i + 6) := ⟨⟨⟨hP2, by omega, y6, y7, by omega, by omega⟩, hA2, by omega, by omega, by omega, by omega⟩, hR2⟩
  exact wk_is6 s0_252 rfl (wk_goto s0_254 (wk_inc4 s0_919 rfl (wk_goto s0_922 (wp_fg (le_s (le_s (le_s (le_s (le_s (le_n (le_n le_0))))))) (hk M2 hI2)))))
theorem s0_257 : Rw 0 257 258 1 14 1 0 0 := rw_of (by decide +kernel)
theorem s0_258 : Rw 0 258 259 1 14 0 0 0 := rw_of (by decide +kernel)
theorem s0_259 : Rw 0 259 261 2 11 4 0 0 := rw_of (by decide +kernel)
theorem s0_261 : Rw 0 261 262 1 1 (cd 1) 2 0 := rw_of (by decide +kernel)
theorem s0_262 : Rw 0 262 263 1 30 0 0 0 := rw_of (by decide +kernel)
theorem s0_263 : Rw 0 263 264 1 97 0 0 0 := rw_of (by decide +kernel)
theorem s0_264 : Rw 0 264 265 1 14 3 0 0 := rw_of (by decide +kernel)
theorem s0_265 : Rw 0 265 268 3 113 261 3 85 := rw_of (by decide +kernel)
theorem s0_268 : Rw 0 268 270 2 17 5 0 0 := rw_of (by decide +kernel)
theorem s0_270 : Rw 0 270 271 1 14 2 0 0 := rw_of (by decide +kernel)
theorem s0_271 : Rw 0 271 272 1 14 0 0 0 := rw_of (by decide +kernel)
theorem s0_272 : Rw 0 272 274 2 11 4 0 0 := rw_of (by decide +kernel)
theorem s0_274 : Rw 0 274 275 1 1 (cd 1) 2 0 := rw_of (by decide +kernel)
theorem s0_275 : Rw 0 275 276 1 30 0 0 0 := rw_of (by decide +kernel)
theorem s0_276 : Rw 0 276 277 1 97 0 0 0 := rw_of (by decide +kernel)
theorem s0_277 : Rw 0 277 280 3 100 126 2 87 := rw_of (by decide +kernel)
theorem kc_739_126 : Kc 739 126 := kc_of (by decide) (by decide +kernel)
theorem s0_280 : Rw 0 280 282 2 17 6 0 0 := rw_of (by decide +kernel)
theorem s0_282 : Rw 0 282 285 3 60 919 0 0 := rw_of (by decide +kernel)
theorem law5_sentence {B : eB} {n i : Int} {d : Nat} {M : Mm} {Q : Nat → eV → Mm → Prop} (hB : SB B n) (h0 : 0 ≤ i) (h1 : i ≤ n - 6) (hI : INV5 M i) (hk : ∀ M2, INV5 M2 (i + 6) → Wp B (d + 80) 0 23 [some (R 4096), some (R 0), some (R 739), some (R 769), some (I (i + 6)), none, none] [] M2 Q) : Wp B (d + 80) 0 257 [some (R 4096), some (R 0), some (R 739), some (R 769), some (I i), none, none] [] M Q := by
  obtain ⟨⟨⟨hP, hT, hW, hQW, hg0, hg9⟩, hA, i9, i2, i5, i11⟩, hR⟩ := hI
  have hB0 := RB_of hP
  obtain ⟨Kf9, hk9, hd9, hc9, hq9⟩ := id hR
  refine wk_al1 s0_257 (wk_al0 s0_258 (wk_il4 s0_259 (wk_c1 s0_261 (wk_iadd s0_262 (wk_saldf hB s0_263 ⟨by omega, by omega⟩ ?_)))))
  intro a1 b1
  refine wk_al3 s0_264 (wk_cs113_3 s0_265 rfl (lw5_sentence _ M (scf B (i + 1)) (M 0 1) (M 0 9) (M 0 5) (M 2 1) (fun k => M 755 k) hP (by omega) (by omega) rfl (bf_0_1 hP).1 (bf_0_1 hP).2 rfl (bf_0_9 hP).1 (bf_0_9 hP).2 rfl (bf_0_5 hP).1 (bf_0_5 hP).2 rfl (by have := bf_2_1 hP; have := bf_739_1 hP; omega) (bf_2_1 hP).2 (fun k a b => hA k a b)) (cqI ?_))
  rintro z1 M1 ⟨hP1, hF1, x0, x1, x2, x3, x4⟩
  have hB1 := RB_of hP1
  refine wk_is5 s0_268 rfl (wk_al2 s0_270 (wk_al0 s0_271 (wk_il4 s0_272 (wk_c1 s0_274 (wk_iadd s0_275 (wk_saldf hB s0_276 ⟨by omega, by omega⟩ ?_))))))
  intro a2 b2
  have hz769 : ∀ (v : Int) (Mp : Mm), M1 = mUp Mp 769 0 v → M1 769 0 = v := fun v Mp e => mUp_at e
  obtain ⟨zc, hzl, hzu, hzo, hS, hC⟩ : ∃ zc : Int, (-9) ≤ zc ∧ zc ≤ 29 ∧ (z1 = 0 → M1 769 0 = ((zc % 18446744073709551616).toNat : Int)) ∧ SNR (fun k => M 755 k) (scf B (i + 1)) (M 0 1) (M 0 9) (M 2 1) (M 0 5) z1 zc (M1 0 9) (M1 0 5) ∧ ((z1 = 1 ∧ ∀ a i : Int, 0 ≤ a → M1 a i = M a i) ∨ (z1 = 0 ∧ ∃ (v : Int) (Mp : Mm), M1 = mUp Mp 769 0 v ∧ (0 ≤ zc → zc = M 0 9 ∧ CDX (fun k => M 755 k) (scf B (i + 1)) (M 2 1) (CL Mp (679 + 2 * M 0 9))) ∧ ∀ s : Int, 0 ≤ s → s < M 0 9 → CL Mp (679 + 2 * s) = CL M (679 + 2 * s))) := by
    rcases x4 with ⟨hk1, t0, t1⟩ | ⟨hk1, z, Mp, f0, f1, f2, f3, f4, f5, f6, f7, f8, f9⟩
    · exact ⟨0, by decide, by decide, fun q => by omega, SNR_t ⟨t0.2.1, hk1, t0.2.2.1, t0.2.2.2.1⟩, Or.inl ⟨hk1, t1⟩⟩
    · exact ⟨z, f3, f4, fun _ => hz769 _ _ f0, by rw [hk1, show M1 0 9 = Mp 0 9 by rw [f0, mUp_ne (Or.inl (by decide))], show M1 0 5 = Mp 0 5 by rw [f0, mUp_ne (Or.inl (by decide))]]; exact f8, Or.inr ⟨hk1, _, Mp, f0, f9⟩⟩
  have h01 : (z1 = 1 ∧ M1 0 1 = M 0 1 ∧ ((scf B (i + 1)) < 0 ∨ M 0 1 < (scf B (i + 1)))) ∨ (z1 = 0 ∧ M1 0 1 = 0 ∧ 0 ≤ (scf B (i + 1)) ∧ (scf B (i + 1)) ≤ M 0 1) := by
    have b01 := bf_0_1 hP1
    rcases x4 with ⟨hk1, t0, t1⟩ | ⟨hk1, z, Mp, f0, f1, f2, f3, f4, f5, f6, f7, f8, f9⟩
    · exact Or.inl ⟨hk1, t0.1, t0.2.1⟩
    · have e01 : M1 0 1 = Mp 0 1 := by rw [f0, mUp_ne (Or.inl (by decide))]
      exact Or.inr ⟨hk1, by omega, by omega, by omega⟩
  clear x4
  have hCn := fun _ : Nat => hC
  clear hC
  have hW1 : WS M1 := WS_sm (Sm.fr hF1 rfl) hW
  have hQ1 : QW M1 := QW_sm (Sm.fr hF1 rfl) hQW
  refine wk_cv2 s0_277 kc_739_126 rfl (n8126_739 _ M1 (scf B (i + 1)) (M1 739 27) (M1 739 29) (M1 739 13) (M1 739 1) (fun k => M 755 k) hP1 (by omega) (by omega) rfl (bf_739_27 hP1).1 (bf_739_27 hP1).2 rfl (bf_739_29 hP1).1 (bf_739_29 hP1).2 rfl (bf_739_13 hP1).1 (bf_739_13 hP1).2 rfl (bf_739_1 hP1).1 (bf_739_1 hP1).2 (fun k _ _ => hF1.at (ga_755 k) rfl) hW1 hQ1) (cqI ?_)
  rintro z2 M2 ⟨hP2, hF2, y0, y1, y2, y3, y4, y5, y6, y7⟩
  have y4n := fun _ : Nat => y4
  clear y4
  have hg2 := hF2.at g_below rfl
  have hg1 : True := trivial
  have v_0_1 := hF2.at g_0_1 rfl
  have v_0_9 := hF2.at g_0_9 rfl
  have u_2_1 := hF1.at g_2_1 rfl
  have v_2_1 := hF2.at g_2_1 rfl
  have v_0_5 := hF2.at g_0_5 rfl
  have u_0_11 := hF1.at g_0_11 rfl
  have v_0_11 := hF2.at g_0_11 rfl
  have u_739_27 := hF1.at g_739_27 rfl
  have u_739_13 := hF1.at g_739_13 rfl
  have u_739_1 := hF1.at g_739_1 rfl
  have v_739_1 := hF2.at g_739_1 rfl
  have u_739_29 := hF1.at g_739_29 rfl
  have u_739_21 := hF1.at g_739_21 rfl
  have v_739_21 := hF2.at g_739_21 rfl
  have hb := bf_0_1 hP
  have w_0 : M1 739 27 = M 0 1 := by omega
  have w_1 : M1 739 13 = M 0 9 := by omega
  have w_2 : M1 739 1 = M 2 1 := by omega
  have w_3 : M1 739 29 = M 0 5 := by omega
  have hS2 := y3
  rw [w_0, w_1, w_2, w_3] at hS2
  have hO := SNR_one hS hS2
  obtain ⟨o0, o1, o2, oz⟩ := hO
  have hA2 : TA (fun k => M2 1 k) (fun k => M2 755 k) (M2 0 1) := TA_mv hA (fun k => (hF2.at (ga_1 k) rfl).trans (hF1.at (ga_1 k) rfl)) (fun k => (hF2.at (ga_755 k) rfl).trans (hF1.at (ga_755 k) rfl)) (by omega)
  have hR2 : RELW M2 := R5_sent (T := (fun k => M 755 k)) (n := (scf B (i + 1))) (k := z1) (z1 := zc) (z2 := z2) hR hB0 hB1 hW i9 (hCn 0) (y4n 0) y5 o0 oz (by have := SNR_cnt hS2 (by have := bf_739_13 hP; omega); omega) (by omega) (bf_739_13 hP2).2 (Sm.fr hF1 rfl) (Sm.fr hF1 rfl) (Sm.fr hF1 rfl) (Sm.fr hF1 rfl) (Sm.fr hF1 rfl) (Sm.fr hF1 rfl) (Sm.fr hF1 rfl) (Sm.fr hF2 rfl) (Sm.fr hF2 rfl) (Sm.fr hF2 rfl) (Sm.fr hF2 rfl) (Sm.fr hF2 rfl) (Sm.fr hF2 rfl) (hF2.at g_739_21 rfl) (hF2.at g_739_24 rfl) (hF2.at g_739_25 rfl) (hF2.at g_739_7 rfl) (fun k => hF2.at (gr_753 (by decide) (by decide) k) rfl) (fun k => hF2.at (gr_754 (by decide) (by decide) k) rfl)
  have hI2 : INV5 M2 (i + 6) := ⟨⟨⟨hP2, by omega, y6, y7, by omega, by omega⟩, hA2, by omega, by omega, by omega, by omega⟩, hR2⟩
  exact wk_is6 s0_280 rfl (wk_goto s0_282 (wk_inc4 s0_919 rfl (wk_goto s0_922 (wp_fg (le_s (le_s (le_s (le_s (le_s (le_n (le_n le_0))))))) (hk M2 hI2)))))
theorem s0_285 : Rw 0 285 286 1 14 1 0 0 := rw_of (by decide +kernel)
theorem s0_286 : Rw 0 286 289 3 100 17 1 88 := rw_of (by decide +kernel)
theorem kc_0_17 : Kc 0 17 := kc_of (by decide) (by decide +kernel)
theorem s0_289 : Rw 0 289 290 1 53 0 0 0 := rw_of (by decide +kernel)
theorem s0_290 : Rw 0 290 291 1 14 2 0 0 := rw_of (by decide +kernel)
theorem s0_291 : Rw 0 291 294 3 100 69 1 92 := rw_of (by decide +kernel)
theorem kc_739_69 : Kc 739 69 := kc_of (by decide) (by decide +kernel)
theorem s0_294 : Rw 0 294 295 1 53 0 0 0 := rw_of (by decide +kernel)
theorem s0_295 : Rw 0 295 298 3 60 919 0 0 := rw_of (by decide +kernel)
theorem law5_fault {B : eB} {n i : Int} {d : Nat} {M : Mm} {Q : Nat → eV → Mm → Prop} (hB : SB B n) (h0 : 0 ≤ i) (h1 : i ≤ n - 6) (hI : INV5 M i) (hk : ∀ M2, INV5 M2 (i + 6) → Wp B (d + 80) 0 23 [some (R 4096), some (R 0), some (R 739), some (R 769), some (I (i + 6)), none, none] [] M2 Q) : Wp B (d + 80) 0 285 [some (R 4096), some (R 0), some (R 739), some (R 769), some (I i), none, none] [] M Q := by
  obtain ⟨⟨⟨hP, hT, hW, hQW, hg0, hg9⟩, hA, i9, i2, i5, i11⟩, hR⟩ := hI
  have hB0 := RB_of hP
  obtain ⟨Kf9, hk9, hd9, hc9, hq9⟩ := id hR
  refine wk_al1 s0_285 (wk_cv1 s0_286 kc_0_17 rfl (m7017_0 _ M (M 0 5) hP rfl (bf_0_5 hP).1 (bf_0_5 hP).2) (cqI ?_))
  rintro z1 M1 ⟨hP1, hF1, x0, x1, x2, x3⟩
  have hB1 := RB_of hP1
  refine wk_popi s0_289 (wk_al2 s0_290 ?_)
  have hW1 : WS M1 := WS_sm (Sm.fr hF1 rfl) hW
  have hQ1 : QW M1 := QW_sm (Sm.fr hF1 rfl) hQW
  refine wk_cv1 s0_291 kc_739_69 rfl (m8069_739 _ M1 (M1 739 29) hP1 rfl (bf_739_29 hP1).1 (bf_739_29 hP1).2) (cqI ?_)
  rintro z2 M2 ⟨hP2, hF2, y0, y1, y2⟩
  have hg2 := hF2.at g_below rfl
  have hg1 := hF1.at g_below rfl
  have u_0_1 := hF1.at g_0_1 rfl
  have v_0_1 := hF2.at g_0_1 rfl
  have u_0_9 := hF1.at g_0_9 rfl
  have v_0_9 := hF2.at g_0_9 rfl
  have u_2_1 := hF1.at g_2_1 rfl
  have v_2_1 := hF2.at g_2_1 rfl
  have u_0_5 := hF1.at g_0_5 rfl
  have v_0_5 := hF2.at g_0_5 rfl
  have u_0_11 := hF1.at g_0_11 rfl
  have v_0_11 := hF2.at g_0_11 rfl
  have u_739_27 := hF1.at g_739_27 rfl
  have v_739_27 := hF2.at g_739_27 rfl
  have u_739_13 := hF1.at g_739_13 rfl
  have v_739_13 := hF2.at g_739_13 rfl
  have u_739_1 := hF1.at g_739_1 rfl
  have v_739_1 := hF2.at g_739_1 rfl
  have u_739_29 := hF1.at g_739_29 rfl
  have v_739_29 := hF2.at g_739_29 rfl
  have u_739_21 := hF1.at g_739_21 rfl
  have v_739_21 := hF2.at g_739_21 rfl
  have hb := bf_0_1 hP
  have hA2 : TA (fun k => M2 1 k) (fun k => M2 755 k) (M2 0 1) := TA_mv hA (fun k => (hF2.at (ga_1 k) rfl).trans (hF1.at (ga_1 k) rfl)) (fun k => (hF2.at (ga_755 k) rfl).trans (hF1.at (ga_755 k) rfl)) (by omega)
  have hR2 : RELW M2 := R5_2 hR hB0 hB1 (Sm.fr hF1 rfl) (Sm.fr hF1 rfl) (Sm.fr hF1 rfl) (Sm.fr hF1 rfl) (Sm.fr hF1 rfl) (Sm.fr hF1 rfl) (Sm.fr hF1 rfl) (Sm.fr hF1 rfl) (Sm.fr hF2 rfl) (Sm.fr hF2 rfl) (Sm.fr hF2 rfl) (Sm.fr hF2 rfl) (MSK_sm (Sm.fr hF2 rfl)) (MSD_sm (Sm.fr hF2 rfl)) (MSC_sm (Sm.fr hF2 rfl)) (MSQ_sm (Sm.fr hF2 rfl))
  have hI2 : INV5 M2 (i + 6) := ⟨⟨⟨hP2, by omega, WS_sm (Sm.fr hF2 rfl) hW1, QW_sm (Sm.fr hF2 rfl) hQ1, by omega, by omega⟩, hA2, by omega, by omega, by omega, by omega⟩, hR2⟩
  exact wk_popi s0_294 (wk_goto s0_295 (wk_inc4 s0_919 rfl (wk_goto s0_922 (wp_fg (le_s (le_s (le_s (le_s (le_s (le_s (le_s le_0))))))) (hk M2 hI2)))))
theorem s0_298 : Rw 0 298 299 1 14 1 0 0 := rw_of (by decide +kernel)
theorem s0_299 : Rw 0 299 300 1 14 0 0 0 := rw_of (by decide +kernel)
theorem s0_300 : Rw 0 300 302 2 11 4 0 0 := rw_of (by decide +kernel)
theorem s0_302 : Rw 0 302 303 1 1 (cd 1) 2 0 := rw_of (by decide +kernel)
theorem s0_303 : Rw 0 303 304 1 30 0 0 0 := rw_of (by decide +kernel)
theorem s0_304 : Rw 0 304 305 1 97 0 0 0 := rw_of (by decide +kernel)
theorem s0_305 : Rw 0 305 306 1 14 3 0 0 := rw_of (by decide +kernel)
theorem s0_306 : Rw 0 306 309 3 113 250 3 93 := rw_of (by decide +kernel)
theorem s0_309 : Rw 0 309 311 2 17 5 0 0 := rw_of (by decide +kernel)
theorem s0_311 : Rw 0 311 312 1 14 2 0 0 := rw_of (by decide +kernel)
theorem s0_312 : Rw 0 312 313 1 14 0 0 0 := rw_of (by decide +kernel)
theorem s0_313 : Rw 0 313 315 2 11 4 0 0 := rw_of (by decide +kernel)
theorem s0_315 : Rw 0 315 316 1 1 (cd 1) 2 0 := rw_of (by decide +kernel)
theorem s0_316 : Rw 0 316 317 1 30 0 0 0 := rw_of (by decide +kernel)
theorem s0_317 : Rw 0 317 318 1 97 0 0 0 := rw_of (by decide +kernel)
theorem s0_318 : Rw 0 318 321 3 100 61 2 95 := rw_of (by decide +kernel)
theorem kc_739_61 : Kc 739 61 := kc_of (by decide) (by decide +kernel)
theorem s0_321 : Rw 0 321 323 2 17 6 0 0 := rw_of (by decide +kernel)
theorem s0_323 : Rw 0 323 326 3 60 919 0 0 := rw_of (by decide +kernel)
theorem law5_count {B : eB} {n i : Int} {d : Nat} {M : Mm} {Q : Nat → eV → Mm → Prop} (hB : SB B n) (h0 : 0 ≤ i) (h1 : i ≤ n - 6) (hI : INV5 M i) (hk : ∀ M2, INV5 M2 (i + 6) → Wp B (d + 80) 0 23 [some (R 4096), some (R 0), some (R 739), some (R 769), some (I (i + 6)), none, none] [] M2 Q) : Wp B (d + 80) 0 298 [some (R 4096), some (R 0), some (R 739), some (R 769), some (I i), none, none] [] M Q := by
  obtain ⟨⟨⟨hP, hT, hW, hQW, hg0, hg9⟩, hA, i9, i2, i5, i11⟩, hR⟩ := hI
  have hB0 := RB_of hP
  obtain ⟨Kf9, hk9, hd9, hc9, hq9⟩ := id hR
  refine wk_al1 s0_298 (wk_al0 s0_299 (wk_il4 s0_300 (wk_c1 s0_302 (wk_iadd s0_303 (wk_saldf hB s0_304 ⟨by omega, by omega⟩ ?_)))))
  intro a1 b1
  refine wk_al3 s0_305 (wk_cs113_3 s0_306 rfl (lw_count _ M (scf B (i + 1)) hP (by omega) (by omega)) (cqI ?_))
  rintro z1 M1 ⟨hP1, hF1, x0, x1, x2, x3⟩
  have hB1 := RB_of hP1
  refine wk_is5 s0_309 rfl (wk_al2 s0_311 (wk_al0 s0_312 (wk_il4 s0_313 (wk_c1 s0_315 (wk_iadd s0_316 (wk_saldf hB s0_317 ⟨by omega, by omega⟩ ?_))))))
  intro a2 b2
  have hW1 : WS M1 := WS_sm (Sm.fr hF1 rfl) hW
  have hQ1 : QW M1 := QW_sm (Sm.fr hF1 rfl) hQW
  refine wk_cv2 s0_318 kc_739_61 rfl (m61_739 _ M1 (scf B (i + 1)) hP1 (by omega) (by omega)) (cqI ?_)
  rintro z2 M2 ⟨hP2, hF2, y0, y1⟩
  have hg2 := hF2.at g_below rfl
  have hg1 : True := trivial
  have u_0_1 := hF1.at g_0_1 rfl
  have v_0_1 := hF2.at g_0_1 rfl
  have u_0_9 := hF1.at g_0_9 rfl
  have v_0_9 := hF2.at g_0_9 rfl
  have u_2_1 := hF1.at g_2_1 rfl
  have v_2_1 := hF2.at g_2_1 rfl
  have u_0_5 := hF1.at g_0_5 rfl
  have v_0_5 := hF2.at g_0_5 rfl
  have u_0_11 := hF1.at g_0_11 rfl
  have v_0_11 := hF2.at g_0_11 rfl
  have u_739_27 := hF1.at g_739_27 rfl
  have v_739_27 := hF2.at g_739_27 rfl
  have u_739_13 := hF1.at g_739_13 rfl
  have v_739_13 := hF2.at g_739_13 rfl
  have u_739_1 := hF1.at g_739_1 rfl
  have v_739_1 := hF2.at g_739_1 rfl
  have u_739_29 := hF1.at g_739_29 rfl
  have v_739_29 := hF2.at g_739_29 rfl
  have u_739_21 := hF1.at g_739_21 rfl
  have v_739_21 := hF2.at g_739_21 rfl
  have hb := bf_0_1 hP
  have hA2 : TA (fun k => M2 1 k) (fun k => M2 755 k) (M2 0 1) := TA_mv hA (fun k => (hF2.at (ga_1 k) rfl).trans (hF1.at (ga_1 k) rfl)) (fun k => (hF2.at (ga_755 k) rfl).trans (hF1.at (ga_755 k) rfl)) (by omega)
  have hR2 : RELW M2 := R5_2 hR hB0 hB1 (Sm.fr hF1 rfl) (Sm.fr hF1 rfl) (Sm.fr hF1 rfl) (Sm.fr hF1 rfl) (Sm.fr hF1 rfl) (Sm.fr hF1 rfl) (Sm.fr hF1 rfl) (Sm.fr hF1 rfl) (Sm.fr hF2 rfl) (Sm.fr hF2 rfl) (Sm.fr hF2 rfl) (Sm.fr hF2 rfl) (MSK_sm (Sm.fr hF2 rfl)) (MSD_sm (Sm.fr hF2 rfl)) (MSC_sm (Sm.fr hF2 rfl)) (MSQ_sm (Sm.fr hF2 rfl))
  have hI2 : INV5 M2 (i + 6) := ⟨⟨⟨hP2, by omega, WS_sm (Sm.fr hF2 rfl) hW1, QW_sm (Sm.fr hF2 rfl) hQ1, by omega, by omega⟩, hA2, by omega, by omega, by omega, by omega⟩, hR2⟩
  exact wk_is6 s0_321 rfl (wk_goto s0_323 (wk_inc4 s0_919 rfl (wk_goto s0_922 (wp_fg (le_s (le_s (le_s (le_s (le_s (le_n (le_n le_0))))))) (hk M2 hI2)))))
theorem s0_326 : Rw 0 326 327 1 14 1 0 0 := rw_of (by decide +kernel)
theorem s0_327 : Rw 0 327 328 1 14 0 0 0 := rw_of (by decide +kernel)
theorem s0_328 : Rw 0 328 330 2 11 4 0 0 := rw_of (by decide +kernel)
theorem s0_330 : Rw 0 330 331 1 1 (cd 1) 2 0 := rw_of (by decide +kernel)
theorem s0_331 : Rw 0 331 332 1 30 0 0 0 := rw_of (by decide +kernel)
theorem s0_332 : Rw 0 332 333 1 97 0 0 0 := rw_of (by decide +kernel)
theorem s0_333 : Rw 0 333 334 1 14 0 0 0 := rw_of (by decide +kernel)
theorem s0_334 : Rw 0 334 336 2 11 4 0 0 := rw_of (by decide +kernel)
theorem s0_336 : Rw 0 336 337 1 1 (cd 2) 3 0 := rw_of (by decide +kernel)
theorem s0_337 : Rw 0 337 338 1 30 0 0 0 := rw_of (by decide +kernel)
theorem s0_338 : Rw 0 338 339 1 97 0 0 0 := rw_of (by decide +kernel)
theorem s0_339 : Rw 0 339 340 1 14 3 0 0 := rw_of (by decide +kernel)
theorem s0_340 : Rw 0 340 343 3 113 256 4 96 := rw_of (by decide +kernel)
theorem s0_343 : Rw 0 343 345 2 17 5 0 0 := rw_of (by decide +kernel)
theorem s0_345 : Rw 0 345 346 1 14 2 0 0 := rw_of (by decide +kernel)
theorem s0_346 : Rw 0 346 347 1 14 0 0 0 := rw_of (by decide +kernel)
theorem s0_347 : Rw 0 347 349 2 11 4 0 0 := rw_of (by decide +kernel)
theorem s0_349 : Rw 0 349 350 1 1 (cd 1) 2 0 := rw_of (by decide +kernel)
theorem s0_350 : Rw 0 350 351 1 30 0 0 0 := rw_of (by decide +kernel)
theorem s0_351 : Rw 0 351 352 1 97 0 0 0 := rw_of (by decide +kernel)
theorem s0_352 : Rw 0 352 353 1 14 0 0 0 := rw_of (by decide +kernel)
theorem s0_353 : Rw 0 353 355 2 11 4 0 0 := rw_of (by decide +kernel)
theorem s0_355 : Rw 0 355 356 1 1 (cd 2) 3 0 := rw_of (by decide +kernel)
theorem s0_356 : Rw 0 356 357 1 30 0 0 0 := rw_of (by decide +kernel)
theorem s0_357 : Rw 0 357 358 1 97 0 0 0 := rw_of (by decide +kernel)
theorem s0_358 : Rw 0 358 361 3 100 110 3 99 := rw_of (by decide +kernel)
theorem kc_739_110 : Kc 739 110 := kc_of (by decide) (by decide +kernel)
theorem s0_361 : Rw 0 361 363 2 17 6 0 0 := rw_of (by decide +kernel)
theorem s0_363 : Rw 0 363 366 3 60 919 0 0 := rw_of (by decide +kernel)
theorem law5_may {B : eB} {n i : Int} {d : Nat} {M : Mm} {Q : Nat → eV → Mm → Prop} (hB : SB B n) (h0 : 0 ≤ i) (h1 : i ≤ n - 6) (hI : INV5 M i) (hk : ∀ M2, INV5 M2 (i + 6) → Wp B (d + 80) 0 23 [some (R 4096), some (R 0), some (R 739), some (R 769), some (I (i + 6)), none, none] [] M2 Q) : Wp B (d + 80) 0 326 [some (R 4096), some (R 0), some (R 739), some (R 769), some (I i), none, none] [] M Q := by
  obtain ⟨⟨⟨hP, hT, hW, hQW, hg0, hg9⟩, hA, i9, i2, i5, i11⟩, hR⟩ := hI
  have hB0 := RB_of hP
  obtain ⟨Kf9, hk9, hd9, hc9, hq9⟩ := id hR
  refine wk_al1 s0_326 (wk_al0 s0_327 (wk_il4 s0_328 (wk_c1 s0_330 (wk_iadd s0_331 (wk_saldf hB s0_332 ⟨by omega, by omega⟩ ?_)))))
  intro a1 b1
  refine wk_al0 s0_333 (wk_il4 s0_334 (wk_c1 s0_336 (wk_iadd s0_337 (wk_saldf hB s0_338 ⟨by omega, by omega⟩ ?_))))
  intro a2 b2
  refine wk_al3 s0_339 (wk_cs113_4 s0_340 rfl (lw_may _ M (scf B (i + 1)) (scf B (i + 2)) hP (by omega) (by omega) (by omega) (by omega)) (cqI ?_))
  rintro z1 M1 ⟨hP1, hF1, x0, x1, x2, x3⟩
  have hB1 := RB_of hP1
  refine wk_is5 s0_343 rfl (wk_al2 s0_345 (wk_al0 s0_346 (wk_il4 s0_347 (wk_c1 s0_349 (wk_iadd s0_350 (wk_saldf hB s0_351 ⟨by omega, by omega⟩ ?_))))))
  intro a3 b3
  refine wk_al0 s0_352 (wk_il4 s0_353 (wk_c1 s0_355 (wk_iadd s0_356 (wk_saldf hB s0_357 ⟨by omega, by omega⟩ ?_))))
  intro a4 b4
  have hW1 : WS M1 := WS_sm (Sm.fr hF1 rfl) hW
  have hQ1 : QW M1 := QW_sm (Sm.fr hF1 rfl) hQW
  refine wk_cv3 s0_358 kc_739_110 rfl (m110_739 _ M1 (scf B (i + 1)) (scf B (i + 2)) hP1 (by omega) (by omega) (by omega) (by omega)) (cqI ?_)
  rintro z2 M2 ⟨hP2, hF2, y0, y1⟩
  have hg2 := hF2.at g_below rfl
  have hg1 : True := trivial
  have u_0_1 := hF1.at g_0_1 rfl
  have v_0_1 := hF2.at g_0_1 rfl
  have u_0_9 := hF1.at g_0_9 rfl
  have v_0_9 := hF2.at g_0_9 rfl
  have u_2_1 := hF1.at g_2_1 rfl
  have v_2_1 := hF2.at g_2_1 rfl
  have u_0_5 := hF1.at g_0_5 rfl
  have v_0_5 := hF2.at g_0_5 rfl
  have u_0_11 := hF1.at g_0_11 rfl
  have v_0_11 := hF2.at g_0_11 rfl
  have u_739_27 := hF1.at g_739_27 rfl
  have v_739_27 := hF2.at g_739_27 rfl
  have u_739_13 := hF1.at g_739_13 rfl
  have v_739_13 := hF2.at g_739_13 rfl
  have u_739_1 := hF1.at g_739_1 rfl
  have v_739_1 := hF2.at g_739_1 rfl
  have u_739_29 := hF1.at g_739_29 rfl
  have v_739_29 := hF2.at g_739_29 rfl
  have u_739_21 := hF1.at g_739_21 rfl
  have v_739_21 := hF2.at g_739_21 rfl
  have hb := bf_0_1 hP
  have hA2 : TA (fun k => M2 1 k) (fun k => M2 755 k) (M2 0 1) := TA_mv hA (fun k => (hF2.at (ga_1 k) rfl).trans (hF1.at (ga_1 k) rfl)) (fun k => (hF2.at (ga_755 k) rfl).trans (hF1.at (ga_755 k) rfl)) (by omega)
  have hR2 : RELW M2 := R5_2 hR hB0 hB1 (Sm.fr hF1 rfl) (Sm.fr hF1 rfl) (Sm.fr hF1 rfl) (Sm.fr hF1 rfl) (Sm.fr hF1 rfl) (Sm.fr hF1 rfl) (Sm.fr hF1 rfl) (Sm.fr hF1 rfl) (Sm.fr hF2 rfl) (Sm.fr hF2 rfl) (Sm.fr hF2 rfl) (Sm.fr hF2 rfl) (MSK_sm (Sm.fr hF2 rfl)) (MSD_sm (Sm.fr hF2 rfl)) (MSC_sm (Sm.fr hF2 rfl)) (MSQ_sm (Sm.fr hF2 rfl))
  have hI2 : INV5 M2 (i + 6) := ⟨⟨⟨hP2, by omega, WS_sm (Sm.fr hF2 rfl) hW1, QW_sm (Sm.fr hF2 rfl) hQ1, by omega, by omega⟩, hA2, by omega, by omega, by omega, by omega⟩, hR2⟩
  exact wk_is6 s0_361 rfl (wk_goto s0_363 (wk_inc4 s0_919 rfl (wk_goto s0_922 (wp_fg (le_s (le_s (le_s (le_s (le_s (le_n (le_n le_0))))))) (hk M2 hI2)))))
theorem s0_366 : Rw 0 366 367 1 14 1 0 0 := rw_of (by decide +kernel)
theorem s0_367 : Rw 0 367 368 1 14 0 0 0 := rw_of (by decide +kernel)
theorem s0_368 : Rw 0 368 370 2 11 4 0 0 := rw_of (by decide +kernel)
theorem s0_370 : Rw 0 370 371 1 1 (cd 1) 2 0 := rw_of (by decide +kernel)
theorem s0_371 : Rw 0 371 372 1 30 0 0 0 := rw_of (by decide +kernel)
theorem s0_372 : Rw 0 372 373 1 97 0 0 0 := rw_of (by decide +kernel)
theorem s0_373 : Rw 0 373 374 1 14 0 0 0 := rw_of (by decide +kernel)
theorem s0_374 : Rw 0 374 376 2 11 4 0 0 := rw_of (by decide +kernel)
theorem s0_376 : Rw 0 376 377 1 1 (cd 2) 3 0 := rw_of (by decide +kernel)
theorem s0_377 : Rw 0 377 378 1 30 0 0 0 := rw_of (by decide +kernel)
theorem s0_378 : Rw 0 378 379 1 97 0 0 0 := rw_of (by decide +kernel)
theorem s0_379 : Rw 0 379 380 1 14 3 0 0 := rw_of (by decide +kernel)
theorem s0_380 : Rw 0 380 383 3 113 260 4 100 := rw_of (by decide +kernel)
theorem s0_383 : Rw 0 383 385 2 17 5 0 0 := rw_of (by decide +kernel)
theorem s0_385 : Rw 0 385 386 1 14 2 0 0 := rw_of (by decide +kernel)
theorem s0_386 : Rw 0 386 387 1 14 0 0 0 := rw_of (by decide +kernel)
theorem s0_387 : Rw 0 387 389 2 11 4 0 0 := rw_of (by decide +kernel)
theorem s0_389 : Rw 0 389 390 1 1 (cd 1) 2 0 := rw_of (by decide +kernel)
theorem s0_390 : Rw 0 390 391 1 30 0 0 0 := rw_of (by decide +kernel)
theorem s0_391 : Rw 0 391 392 1 97 0 0 0 := rw_of (by decide +kernel)
theorem s0_392 : Rw 0 392 393 1 14 0 0 0 := rw_of (by decide +kernel)
theorem s0_393 : Rw 0 393 395 2 11 4 0 0 := rw_of (by decide +kernel)
theorem s0_395 : Rw 0 395 396 1 1 (cd 2) 3 0 := rw_of (by decide +kernel)
theorem s0_396 : Rw 0 396 397 1 30 0 0 0 := rw_of (by decide +kernel)
theorem s0_397 : Rw 0 397 398 1 97 0 0 0 := rw_of (by decide +kernel)
theorem s0_398 : Rw 0 398 401 3 100 124 3 102 := rw_of (by decide +kernel)
theorem kc_739_124 : Kc 739 124 := kc_of (by decide) (by decide +kernel)
theorem s0_401 : Rw 0 401 403 2 17 6 0 0 := rw_of (by decide +kernel)
theorem s0_403 : Rw 0 403 406 3 60 919 0 0 := rw_of (by decide +kernel)
theorem law5_says {B : eB} {n i : Int} {d : Nat} {M : Mm} {Q : Nat → eV → Mm → Prop} (hB : SB B n) (h0 : 0 ≤ i) (h1 : i ≤ n - 6) (hI : INV5 M i) (hk : ∀ M2, INV5 M2 (i + 6) → Wp B (d + 80) 0 23 [some (R 4096), some (R 0), some (R 739), some (R 769), some (I (i + 6)), none, none] [] M2 Q) : Wp B (d + 80) 0 366 [some (R 4096), some (R 0), some (R 739), some (R 769), some (I i), none, none] [] M Q := by
  obtain ⟨⟨⟨hP, hT, hW, hQW, hg0, hg9⟩, hA, i9, i2, i5, i11⟩, hR⟩ := hI
  have hB0 := RB_of hP
  obtain ⟨Kf9, hk9, hd9, hc9, hq9⟩ := id hR
  refine wk_al1 s0_366 (wk_al0 s0_367 (wk_il4 s0_368 (wk_c1 s0_370 (wk_iadd s0_371 (wk_saldf hB s0_372 ⟨by omega, by omega⟩ ?_)))))
  intro a1 b1
  refine wk_al0 s0_373 (wk_il4 s0_374 (wk_c1 s0_376 (wk_iadd s0_377 (wk_saldf hB s0_378 ⟨by omega, by omega⟩ ?_))))
  intro a2 b2
  refine wk_al3 s0_379 (wk_cs113_4 s0_380 rfl (lw5_says _ M (scf B (i + 1)) (scf B (i + 2)) (M 138 5) (M 10 10) (M 0 9) (M 2 1) hP (by omega) (by omega) (by omega) (by omega) rfl (bf_138_5 hP).1 (bf_138_5 hP).2 rfl (bf_10_10 hP).1 (bf_10_10 hP).2 rfl (bf_0_9 hP).1 (bf_0_9 hP).2 rfl (by have := bf_2_1 hP; have := bf_739_1 hP; omega) (bf_2_1 hP).2 (fun x y => RWC_ok hc9 _ y (by omega))) (cqI ?_))
  rintro z1 M1 ⟨hP1, hF1, x0, x1, x2, x3, x4⟩
  have hB1 := RB_of hP1
  refine wk_is5 s0_383 rfl (wk_al2 s0_385 (wk_al0 s0_386 (wk_il4 s0_387 (wk_c1 s0_389 (wk_iadd s0_390 (wk_saldf hB s0_391 ⟨by omega, by omega⟩ ?_))))))
  intro a3 b3
  refine wk_al0 s0_392 (wk_il4 s0_393 (wk_c1 s0_395 (wk_iadd s0_396 (wk_saldf hB s0_397 ⟨by omega, by omega⟩ ?_))))
  intro a4 b4
  have hz769 : ∀ (v : Int) (Mp : Mm), M1 = mUp Mp 769 0 v → M1 769 0 = v := fun v Mp e => mUp_at e
  obtain ⟨zc, hzl, hzu, hzo, hC⟩ : ∃ zc : Int, -1 ≤ zc ∧ zc ≤ 11 ∧ (z1 = 0 → M1 769 0 = ((zc % 18446744073709551616).toNat : Int)) ∧ ((z1 = 1 ∧ ((scf B (i + 1)) < 0 ∨ M 2 1 ≤ (scf B (i + 1)) ∨ (scf B (i + 2)) < 0 ∨ M 739 13 ≤ (scf B (i + 2))) ∧ ∀ a i : Int, 0 ≤ a → M1 a i = M a i) ∨ (z1 = 0 ∧ ¬ ((scf B (i + 1)) < 0 ∨ M 2 1 ≤ (scf B (i + 1)) ∨ (scf B (i + 2)) < 0 ∨ M 739 13 ≤ (scf B (i + 2))) ∧ ∃ (v : Int) (Mp : Mm), M1 = mUp Mp 769 0 v ∧ RB5 Mp ∧ ((M 138 5 = 12 ∧ zc = -1 ∧ ∀ a i : Int, Mp a i = M a i) ∨ (M 138 5 < 12 ∧ zc = M 138 5 ∧ RECP M Mp (scf B (i + 1)) (679 + 2 * (scf B (i + 2))) (-1) (M 138 5) (M 10 10))))) := by
    rcases x4 with ⟨hk1, t0, t1⟩ | ⟨hk1, z, Mp, f0, f1, f2, f3, f4, f5, f6⟩
    · exact ⟨0, by decide, by decide, fun q => by omega, Or.inl ⟨hk1, by omega, t1⟩⟩
    · exact ⟨z, f3, f4, fun _ => hz769 _ _ f0, Or.inr ⟨hk1, by omega, _, Mp, f0, RB_of f1, f6⟩⟩
  have hW1 : WS M1 := WS_sm (Sm.fr hF1 rfl) hW
  have hQ1 : QW M1 := QW_sm (Sm.fr hF1 rfl) hQW
  have w7 : M1 739 7 = M 739 7 := hF1.at g_739_7 rfl
  have w15 : M1 739 15 = M 739 15 := hF1.at g_739_15 rfl
  have hEB := hd9.2.2.2.1
  obtain ⟨O9, hO9⟩ := RWC_ex hc9 (scf B (i + 2))
  have w13 : M1 739 13 = M 739 13 := hF1.at g_739_13 rfl
  refine wk_cv3 s0_398 kc_739_124 rfl (n8124_739 _ M1 (scf B (i + 1)) (scf B (i + 2)) (M1 739 13) (M1 739 1) (M1 739 15) (M1 739 7) (M1 739 0) O9 hP1 (by omega) (by omega) (by omega) (by omega) rfl (bf_739_13 hP1).1 (bf_739_13 hP1).2 rfl (bf_739_1 hP1).1 (bf_739_1 hP1).2 rfl (bf_739_15 hP1).1 (bf_739_15 hP1).2 rfl (bf_739_7 hP1).1 (bf_739_7 hP1).2 rfl (bf_739_0 hP1).1 (bf_739_0 hP1).2 (fun a b => by rw [show (fun k => M1 747 k) = (fun k => M 747 k) from funext fun k => hF1.at (gr_747 (by decide) (by decide) k) rfl]; exact hO9 a (by omega)) (fun w a b => by rw [hF1.at (gr_751 (by decide) (by decide) w) rfl, hF1.at (gr_752 (by decide) (by decide) w) rfl, w15]; exact hEB w a (by rw [w7] at b; exact b)) hW1) (cqI ?_)
  rintro z2 M2 ⟨hP2, hF2, y0, y1, y2, y3⟩
  have hg2 := hF2.at g_below rfl
  have hg1 : True := trivial
  have u_0_1 := hF1.at g_0_1 rfl
  have v_0_1 := hF2.at g_0_1 rfl
  have u_0_9 := hF1.at g_0_9 rfl
  have v_0_9 := hF2.at g_0_9 rfl
  have u_2_1 := hF1.at g_2_1 rfl
  have v_2_1 := hF2.at g_2_1 rfl
  have u_0_5 := hF1.at g_0_5 rfl
  have v_0_5 := hF2.at g_0_5 rfl
  have u_0_11 := hF1.at g_0_11 rfl
  have v_0_11 := hF2.at g_0_11 rfl
  have u_739_27 := hF1.at g_739_27 rfl
  have v_739_27 := hF2.at g_739_27 rfl
  have u_739_13 := hF1.at g_739_13 rfl
  have v_739_13 := hF2.at g_739_13 rfl
  have u_739_1 := hF1.at g_739_1 rfl
  have v_739_1 := hF2.at g_739_1 rfl
  have u_739_29 := hF1.at g_739_29 rfl
  have v_739_29 := hF2.at g_739_29 rfl
  have u_739_21 := hF1.at g_739_21 rfl
  have v_739_21 := hF2.at g_739_21 rfl
  have hb := bf_0_1 hP
  have hA2 : TA (fun k => M2 1 k) (fun k => M2 755 k) (M2 0 1) := TA_mv hA (fun k => (hF2.at (ga_1 k) rfl).trans (hF1.at (ga_1 k) rfl)) (fun k => (hF2.at (ga_755 k) rfl).trans (hF1.at (ga_755 k) rfl)) (by omega)
  have hMM : (((scf B (i + 1)) < 0 ∨ M 2 1 ≤ (scf B (i + 1)) ∨ (scf B (i + 2)) < 0 ∨ M 739 13 ≤ (scf B (i + 2))) ∧ M2 739 0 = 1 ∧ MALL M1 M2) ∨ (¬ ((scf B (i + 1)) < 0 ∨ M 2 1 ≤ (scf B (i + 1)) ∨ (scf B (i + 2)) < 0 ∨ M 739 13 ≤ (scf B (i + 2))) ∧ M2 739 0 = 0 ∧ ((M1 739 15 = 12 ∧ z2 = -1 ∧ MALL M1 M2) ∨ (M1 739 15 ≠ 12 ∧ z2 = M1 739 15 ∧ M2 739 15 = M1 739 15 + 1 ∧ (∀ k : Int, M2 748 k = if k = M1 739 15 then (scf B (i + 1)) else M1 748 k) ∧ EVW M1 M2 O9 (M1 739 15) (scf B (i + 1)) (-1) (M1 739 7)))) := by
    have b739 := bf_739_1 hP
    rcases y2 with ⟨m1, m2, m3, m4⟩ | ⟨m1, m2, m3, m4, m5, m6⟩
    · exact Or.inl ⟨by omega, m3, m4⟩
    · refine Or.inr ⟨by omega, m5, ?_⟩
      rcases m6 with ⟨n1, n2, n3⟩ | ⟨n1, n2, n3, n4, n5⟩
      · exact Or.inl ⟨n1, n2, n3⟩
      · exact Or.inr ⟨n1, n2, n3, n4.1, n5⟩
  have hRR := R5_says (bad := ((scf B (i + 1)) < 0 ∨ M 2 1 ≤ (scf B (i + 1)) ∨ (scf B (i + 2)) < 0 ∨ M 739 13 ≤ (scf B (i + 2)))) (wd := (-1)) (z1 := zc) (z2 := z2) hR hB0 hB1 hP (fun _ => Or.inl rfl) (fun q0 => by have := bf_739_1 hP; omega) (by rcases hC with ⟨-, c1, c2⟩ | ⟨-, c1, c2⟩; (exact Or.inl ⟨c1, c2⟩); (exact Or.inr ⟨c1, c2⟩)) (Sm.fr hF1 rfl) (Sm.fr hF1 rfl) (Sm.fr hF1 rfl) (Sm.fr hF1 rfl) (Sm.fr hF1 rfl) hMM (Sm.fr hF2 rfl) (Sm.fr hF2 rfl) (Sm.fr hF2 rfl) (Sm.fr hF2 rfl) (Sm.fr hF2 rfl) (Sm.fr hF2 rfl) (Sm.fr hF2 rfl) hO9 g769_ex
  have hR2 := hRR.1
  have hI2 : INV5 M2 (i + 6) := ⟨⟨⟨hP2, by omega, y3, QW_sm (Sm.fr hF2 rfl) hQ1, by omega, by omega⟩, hA2, by omega, by omega, by omega, by omega⟩, hR2⟩
  exact wk_is6 s0_401 rfl (wk_goto s0_403 (wk_inc4 s0_919 rfl (wk_goto s0_922 (wp_fg (le_s (le_s (le_s (le_s (le_s (le_n (le_n le_0))))))) (hk M2 hI2)))))
theorem s0_406 : Rw 0 406 407 1 14 1 0 0 := rw_of (by decide +kernel)
theorem s0_407 : Rw 0 407 408 1 14 0 0 0 := rw_of (by decide +kernel)
theorem s0_408 : Rw 0 408 410 2 11 4 0 0 := rw_of (by decide +kernel)
theorem s0_410 : Rw 0 410 411 1 1 (cd 1) 2 0 := rw_of (by decide +kernel)
theorem s0_411 : Rw 0 411 412 1 30 0 0 0 := rw_of (by decide +kernel)
theorem s0_412 : Rw 0 412 413 1 97 0 0 0 := rw_of (by decide +kernel)
theorem s0_413 : Rw 0 413 414 1 14 0 0 0 := rw_of (by decide +kernel)
theorem s0_414 : Rw 0 414 416 2 11 4 0 0 := rw_of (by decide +kernel)
theorem s0_416 : Rw 0 416 417 1 1 (cd 2) 3 0 := rw_of (by decide +kernel)
theorem s0_417 : Rw 0 417 418 1 30 0 0 0 := rw_of (by decide +kernel)
theorem s0_418 : Rw 0 418 419 1 97 0 0 0 := rw_of (by decide +kernel)
theorem s0_419 : Rw 0 419 420 1 14 0 0 0 := rw_of (by decide +kernel)
theorem s0_420 : Rw 0 420 422 2 11 4 0 0 := rw_of (by decide +kernel)
theorem s0_422 : Rw 0 422 423 1 1 (cd 3) 4 0 := rw_of (by decide +kernel)
theorem s0_423 : Rw 0 423 424 1 30 0 0 0 := rw_of (by decide +kernel)
theorem s0_424 : Rw 0 424 425 1 97 0 0 0 := rw_of (by decide +kernel)
theorem s0_425 : Rw 0 425 426 1 14 3 0 0 := rw_of (by decide +kernel)
theorem s0_426 : Rw 0 426 429 3 113 247 5 103 := rw_of (by decide +kernel)
theorem s0_429 : Rw 0 429 431 2 17 5 0 0 := rw_of (by decide +kernel)
theorem s0_431 : Rw 0 431 432 1 14 2 0 0 := rw_of (by decide +kernel)
theorem s0_432 : Rw 0 432 433 1 14 0 0 0 := rw_of (by decide +kernel)
theorem s0_433 : Rw 0 433 435 2 11 4 0 0 := rw_of (by decide +kernel)
theorem s0_435 : Rw 0 435 436 1 1 (cd 1) 2 0 := rw_of (by decide +kernel)
theorem s0_436 : Rw 0 436 437 1 30 0 0 0 := rw_of (by decide +kernel)
theorem s0_437 : Rw 0 437 438 1 97 0 0 0 := rw_of (by decide +kernel)
theorem s0_438 : Rw 0 438 439 1 14 0 0 0 := rw_of (by decide +kernel)
theorem s0_439 : Rw 0 439 441 2 11 4 0 0 := rw_of (by decide +kernel)
theorem s0_441 : Rw 0 441 442 1 1 (cd 2) 3 0 := rw_of (by decide +kernel)
theorem s0_442 : Rw 0 442 443 1 30 0 0 0 := rw_of (by decide +kernel)
theorem s0_443 : Rw 0 443 444 1 97 0 0 0 := rw_of (by decide +kernel)
theorem s0_444 : Rw 0 444 445 1 14 0 0 0 := rw_of (by decide +kernel)
theorem s0_445 : Rw 0 445 447 2 11 4 0 0 := rw_of (by decide +kernel)
theorem s0_447 : Rw 0 447 448 1 1 (cd 3) 4 0 := rw_of (by decide +kernel)
theorem s0_448 : Rw 0 448 449 1 30 0 0 0 := rw_of (by decide +kernel)
theorem s0_449 : Rw 0 449 450 1 97 0 0 0 := rw_of (by decide +kernel)
theorem s0_450 : Rw 0 450 453 3 100 46 4 106 := rw_of (by decide +kernel)
theorem kc_739_46 : Kc 739 46 := kc_of (by decide) (by decide +kernel)
theorem s0_453 : Rw 0 453 455 2 17 6 0 0 := rw_of (by decide +kernel)
theorem s0_455 : Rw 0 455 458 3 60 919 0 0 := rw_of (by decide +kernel)
theorem law5_answers {B : eB} {n i : Int} {d : Nat} {M : Mm} {Q : Nat → eV → Mm → Prop} (hB : SB B n) (h0 : 0 ≤ i) (h1 : i ≤ n - 6) (hI : INV5 M i) (hk : ∀ M2, INV5 M2 (i + 6) → Wp B (d + 80) 0 23 [some (R 4096), some (R 0), some (R 739), some (R 769), some (I (i + 6)), none, none] [] M2 Q) : Wp B (d + 80) 0 406 [some (R 4096), some (R 0), some (R 739), some (R 769), some (I i), none, none] [] M Q := by
  obtain ⟨⟨⟨hP, hT, hW, hQW, hg0, hg9⟩, hA, i9, i2, i5, i11⟩, hR⟩ := hI
  have hB0 := RB_of hP
  obtain ⟨Kf9, hk9, hd9, hc9, hq9⟩ := id hR
  refine wk_al1 s0_406 (wk_al0 s0_407 (wk_il4 s0_408 (wk_c1 s0_410 (wk_iadd s0_411 (wk_saldf hB s0_412 ⟨by omega, by omega⟩ ?_)))))
  intro a1 b1
  refine wk_al0 s0_413 (wk_il4 s0_414 (wk_c1 s0_416 (wk_iadd s0_417 (wk_saldf hB s0_418 ⟨by omega, by omega⟩ ?_))))
  intro a2 b2
  refine wk_al0 s0_419 (wk_il4 s0_420 (wk_c1 s0_422 (wk_iadd s0_423 (wk_saldf hB s0_424 ⟨by omega, by omega⟩ ?_))))
  intro a3 b3
  refine wk_al3 s0_425 (wk_cs113_5 s0_426 rfl (lw5_answers _ M (scf B (i + 1)) (scf B (i + 2)) (scf B (i + 3)) (M 138 5) (M 10 10) (M 0 9) (M 2 1) hP (by omega) (by omega) (by omega) (by omega) (by omega) (by omega) rfl (bf_138_5 hP).1 (bf_138_5 hP).2 rfl (bf_10_10 hP).1 (bf_10_10 hP).2 rfl (bf_0_9 hP).1 (bf_0_9 hP).2 rfl (by have := bf_2_1 hP; have := bf_739_1 hP; omega) (bf_2_1 hP).2 (fun x y => RWC_ok hc9 _ y (by omega))) (cqI ?_))
  rintro z1 M1 ⟨hP1, hF1, x0, x1, x2, x3, x4⟩
  have hB1 := RB_of hP1
  refine wk_is5 s0_429 rfl (wk_al2 s0_431 (wk_al0 s0_432 (wk_il4 s0_433 (wk_c1 s0_435 (wk_iadd s0_436 (wk_saldf hB s0_437 ⟨by omega, by omega⟩ ?_))))))
  intro a4 b4
  refine wk_al0 s0_438 (wk_il4 s0_439 (wk_c1 s0_441 (wk_iadd s0_442 (wk_saldf hB s0_443 ⟨by omega, by omega⟩ ?_))))
  intro a5 b5
  refine wk_al0 s0_444 (wk_il4 s0_445 (wk_c1 s0_447 (wk_iadd s0_448 (wk_saldf hB s0_449 ⟨by omega, by omega⟩ ?_))))
  intro a6 b6
  have hz769 : ∀ (v : Int) (Mp : Mm), M1 = mUp Mp 769 0 v → M1 769 0 = v := fun v Mp e => mUp_at e
  obtain ⟨zc, hzl, hzu, hzo, hC⟩ : ∃ zc : Int, -1 ≤ zc ∧ zc ≤ 11 ∧ (z1 = 0 → M1 769 0 = ((zc % 18446744073709551616).toNat : Int)) ∧ ((z1 = 1 ∧ ((scf B (i + 1)) < 0 ∨ M 2 1 ≤ (scf B (i + 1)) ∨ (scf B (i + 2)) < 0 ∨ M 739 13 ≤ (scf B (i + 2)) ∨ (scf B (i + 3)) < 0 ∨ 1 < (scf B (i + 3))) ∧ ∀ a i : Int, 0 ≤ a → M1 a i = M a i) ∨ (z1 = 0 ∧ ¬ ((scf B (i + 1)) < 0 ∨ M 2 1 ≤ (scf B (i + 1)) ∨ (scf B (i + 2)) < 0 ∨ M 739 13 ≤ (scf B (i + 2)) ∨ (scf B (i + 3)) < 0 ∨ 1 < (scf B (i + 3))) ∧ ∃ (v : Int) (Mp : Mm), M1 = mUp Mp 769 0 v ∧ RB5 Mp ∧ ((M 138 5 = 12 ∧ zc = -1 ∧ ∀ a i : Int, Mp a i = M a i) ∨ (M 138 5 < 12 ∧ zc = M 138 5 ∧ RECP M Mp (scf B (i + 1)) (679 + 2 * (scf B (i + 2))) (scf B (i + 3)) (M 138 5) (M 10 10))))) := by
    rcases x4 with ⟨hk1, t0, t1⟩ | ⟨hk1, z, Mp, f0, f1, f2, f3, f4, f5, f6⟩
    · exact ⟨0, by decide, by decide, fun q => by omega, Or.inl ⟨hk1, by omega, t1⟩⟩
    · exact ⟨z, f3, f4, fun _ => hz769 _ _ f0, Or.inr ⟨hk1, by omega, _, Mp, f0, RB_of f1, f6⟩⟩
  have hW1 : WS M1 := WS_sm (Sm.fr hF1 rfl) hW
  have hQ1 : QW M1 := QW_sm (Sm.fr hF1 rfl) hQW
  have w7 : M1 739 7 = M 739 7 := hF1.at g_739_7 rfl
  have w15 : M1 739 15 = M 739 15 := hF1.at g_739_15 rfl
  have hEB := hd9.2.2.2.1
  obtain ⟨O9, hO9⟩ := RWC_ex hc9 (scf B (i + 2))
  have w13 : M1 739 13 = M 739 13 := hF1.at g_739_13 rfl
  refine wk_cv4 s0_450 kc_739_46 rfl (n8046_739 _ M1 (scf B (i + 1)) (scf B (i + 2)) (scf B (i + 3)) (M1 739 13) (M1 739 1) (M1 739 15) (M1 739 7) (M1 739 0) O9 hP1 (by omega) (by omega) (by omega) (by omega) (by omega) (by omega) rfl (bf_739_13 hP1).1 (bf_739_13 hP1).2 rfl (bf_739_1 hP1).1 (bf_739_1 hP1).2 rfl (bf_739_15 hP1).1 (bf_739_15 hP1).2 rfl (bf_739_7 hP1).1 (bf_739_7 hP1).2 rfl (bf_739_0 hP1).1 (bf_739_0 hP1).2 (fun a b => by rw [show (fun k => M1 747 k) = (fun k => M 747 k) from funext fun k => hF1.at (gr_747 (by decide) (by decide) k) rfl]; exact hO9 a (by omega)) (fun w a b => by rw [hF1.at (gr_751 (by decide) (by decide) w) rfl, hF1.at (gr_752 (by decide) (by decide) w) rfl, w15]; exact hEB w a (by rw [w7] at b; exact b)) hW1) (cqI ?_)
  rintro z2 M2 ⟨hP2, hF2, y0, y1, y2, y3⟩
  have hg2 := hF2.at g_below rfl
  have hg1 : True := trivial
  have u_0_1 := hF1.at g_0_1 rfl
  have v_0_1 := hF2.at g_0_1 rfl
  have u_0_9 := hF1.at g_0_9 rfl
  have v_0_9 := hF2.at g_0_9 rfl
  have u_2_1 := hF1.at g_2_1 rfl
  have v_2_1 := hF2.at g_2_1 rfl
  have u_0_5 := hF1.at g_0_5 rfl
  have v_0_5 := hF2.at g_0_5 rfl
  have u_0_11 := hF1.at g_0_11 rfl
  have v_0_11 := hF2.at g_0_11 rfl
  have u_739_27 := hF1.at g_739_27 rfl
  have v_739_27 := hF2.at g_739_27 rfl
  have u_739_13 := hF1.at g_739_13 rfl
  have v_739_13 := hF2.at g_739_13 rfl
  have u_739_1 := hF1.at g_739_1 rfl
  have v_739_1 := hF2.at g_739_1 rfl
  have u_739_29 := hF1.at g_739_29 rfl
  have v_739_29 := hF2.at g_739_29 rfl
  have u_739_21 := hF1.at g_739_21 rfl
  have v_739_21 := hF2.at g_739_21 rfl
  have hb := bf_0_1 hP
  have hA2 : TA (fun k => M2 1 k) (fun k => M2 755 k) (M2 0 1) := TA_mv hA (fun k => (hF2.at (ga_1 k) rfl).trans (hF1.at (ga_1 k) rfl)) (fun k => (hF2.at (ga_755 k) rfl).trans (hF1.at (ga_755 k) rfl)) (by omega)
  have hMM : (((scf B (i + 1)) < 0 ∨ M 2 1 ≤ (scf B (i + 1)) ∨ (scf B (i + 2)) < 0 ∨ M 739 13 ≤ (scf B (i + 2)) ∨ (scf B (i + 3)) < 0 ∨ 1 < (scf B (i + 3))) ∧ M2 739 0 = 1 ∧ MALL M1 M2) ∨ (¬ ((scf B (i + 1)) < 0 ∨ M 2 1 ≤ (scf B (i + 1)) ∨ (scf B (i + 2)) < 0 ∨ M 739 13 ≤ (scf B (i + 2)) ∨ (scf B (i + 3)) < 0 ∨ 1 < (scf B (i + 3))) ∧ M2 739 0 = 0 ∧ ((M1 739 15 = 12 ∧ z2 = -1 ∧ MALL M1 M2) ∨ (M1 739 15 ≠ 12 ∧ z2 = M1 739 15 ∧ M2 739 15 = M1 739 15 + 1 ∧ (∀ k : Int, M2 748 k = if k = M1 739 15 then (scf B (i + 1)) else M1 748 k) ∧ EVW M1 M2 O9 (M1 739 15) (scf B (i + 1)) (scf B (i + 3)) (M1 739 7)))) := by
    have b739 := bf_739_1 hP
    rcases y2 with ⟨m1, m2, m3, m4⟩ | ⟨m1, m2, m3, m4, m8, m9, m5, m6⟩
    · exact Or.inl ⟨by omega, m3, m4⟩
    · refine Or.inr ⟨by omega, m5, ?_⟩
      rcases m6 with ⟨n1, n2, n3⟩ | ⟨n1, n2, n3, n4, n5⟩
      · exact Or.inl ⟨n1, n2, n3⟩
      · exact Or.inr ⟨n1, n2, n3, n4.1, n5⟩
  have hRR := R5_says (bad := ((scf B (i + 1)) < 0 ∨ M 2 1 ≤ (scf B (i + 1)) ∨ (scf B (i + 2)) < 0 ∨ M 739 13 ≤ (scf B (i + 2)) ∨ (scf B (i + 3)) < 0 ∨ 1 < (scf B (i + 3)))) (wd := (scf B (i + 3))) (z1 := zc) (z2 := z2) hR hB0 hB1 hP (fun q0 => by omega) (fun q0 => by have := bf_739_1 hP; omega) (by rcases hC with ⟨-, c1, c2⟩ | ⟨-, c1, c2⟩; (exact Or.inl ⟨c1, c2⟩); (exact Or.inr ⟨c1, c2⟩)) (Sm.fr hF1 rfl) (Sm.fr hF1 rfl) (Sm.fr hF1 rfl) (Sm.fr hF1 rfl) (Sm.fr hF1 rfl) hMM (Sm.fr hF2 rfl) (Sm.fr hF2 rfl) (Sm.fr hF2 rfl) (Sm.fr hF2 rfl) (Sm.fr hF2 rfl) (Sm.fr hF2 rfl) (Sm.fr hF2 rfl) hO9 g769_ex
  have hR2 := hRR.1
  have hI2 : INV5 M2 (i + 6) := ⟨⟨⟨hP2, by omega, y3, QW_sm (Sm.fr hF2 rfl) hQ1, by omega, by omega⟩, hA2, by omega, by omega, by omega, by omega⟩, hR2⟩
  exact wk_is6 s0_453 rfl (wk_goto s0_455 (wk_inc4 s0_919 rfl (wk_goto s0_922 (wp_fg (le_s (le_s (le_s (le_s (le_s (le_n (le_n le_0))))))) (hk M2 hI2)))))
theorem s0_458 : Rw 0 458 459 1 14 1 0 0 := rw_of (by decide +kernel)
theorem s0_459 : Rw 0 459 462 3 100 12 1 107 := rw_of (by decide +kernel)
theorem kc_0_12 : Kc 0 12 := kc_of (by decide) (by decide +kernel)
theorem s0_462 : Rw 0 462 463 1 53 0 0 0 := rw_of (by decide +kernel)
theorem s0_463 : Rw 0 463 464 1 14 2 0 0 := rw_of (by decide +kernel)
theorem s0_464 : Rw 0 464 467 3 100 49 1 110 := rw_of (by decide +kernel)
theorem kc_739_49 : Kc 739 49 := kc_of (by decide) (by decide +kernel)
theorem s0_467 : Rw 0 467 468 1 53 0 0 0 := rw_of (by decide +kernel)
theorem s0_468 : Rw 0 468 471 3 60 919 0 0 := rw_of (by decide +kernel)
theorem law5_back {B : eB} {n i : Int} {d : Nat} {M : Mm} {Q : Nat → eV → Mm → Prop} (hB : SB B n) (h0 : 0 ≤ i) (h1 : i ≤ n - 6) (hI : INV5 M i) (hk : ∀ M2, INV5 M2 (i + 6) → Wp B (d + 80) 0 23 [some (R 4096), some (R 0), some (R 739), some (R 769), some (I (i + 6)), none, none] [] M2 Q) : Wp B (d + 80) 0 458 [some (R 4096), some (R 0), some (R 739), some (R 769), some (I i), none, none] [] M Q := by
  obtain ⟨⟨⟨hP, hT, hW, hQW, hg0, hg9⟩, hA, i9, i2, i5, i11⟩, hR⟩ := hI
  have hB0 := RB_of hP
  obtain ⟨Kf9, hk9, hd9, hc9, hq9⟩ := id hR
  refine wk_al1 s0_458 (wk_cv1 s0_459 kc_0_12 rfl (n7012_0 _ M (M 138 5) hP rfl (bf_138_5 hP).1 (bf_138_5 hP).2) (cqI ?_))
  rintro z1 M1 ⟨hP1, hF1, x0, x1, x2⟩
  have hB1 := RB_of hP1
  refine wk_popi s0_462 (wk_al2 s0_463 ?_)
  have hW1 : WS M1 := WS_sm (Sm.fr hF1 rfl) hW
  have hQ1 : QW M1 := QW_sm (Sm.fr hF1 rfl) hQW
  have w7 : M1 739 7 = M 739 7 := hF1.at g_739_7 rfl
  have w15 : M1 739 15 = M 739 15 := hF1.at g_739_15 rfl
  have hEB := hd9.2.2.2.1
  refine wk_cv1 s0_464 kc_739_49 rfl (n8049_739 _ M1 (M1 739 15) (M1 739 7) hP1 rfl (bf_739_15 hP1).1 (bf_739_15 hP1).2 rfl (bf_739_7 hP1).1 (bf_739_7 hP1).2 (fun w a b => by rw [hF1.at (gr_751 (by decide) (by decide) w) rfl, hF1.at (gr_752 (by decide) (by decide) w) rfl, w15]; exact hEB w a (by rw [w7] at b; exact b))) (cqI ?_)
  rintro z2 M2 ⟨hP2, hF2, y0, y1, y2⟩
  have hg2 := hF2.at g_below rfl
  have hg1 := hF1.at g_below rfl
  have u_0_1 := hF1.at g_0_1 rfl
  have v_0_1 := hF2.at g_0_1 rfl
  have u_0_9 := hF1.at g_0_9 rfl
  have v_0_9 := hF2.at g_0_9 rfl
  have u_2_1 := hF1.at g_2_1 rfl
  have v_2_1 := hF2.at g_2_1 rfl
  have u_0_5 := hF1.at g_0_5 rfl
  have v_0_5 := hF2.at g_0_5 rfl
  have u_0_11 := hF1.at g_0_11 rfl
  have v_0_11 := hF2.at g_0_11 rfl
  have u_739_27 := hF1.at g_739_27 rfl
  have v_739_27 := hF2.at g_739_27 rfl
  have u_739_13 := hF1.at g_739_13 rfl
  have v_739_13 := hF2.at g_739_13 rfl
  have u_739_1 := hF1.at g_739_1 rfl
  have v_739_1 := hF2.at g_739_1 rfl
  have u_739_29 := hF1.at g_739_29 rfl
  have v_739_29 := hF2.at g_739_29 rfl
  have u_739_21 := hF1.at g_739_21 rfl
  have v_739_21 := hF2.at g_739_21 rfl
  have hb := bf_0_1 hP
  have hA2 : TA (fun k => M2 1 k) (fun k => M2 755 k) (M2 0 1) := TA_mv hA (fun k => (hF2.at (ga_1 k) rfl).trans (hF1.at (ga_1 k) rfl)) (fun k => (hF2.at (ga_755 k) rfl).trans (hF1.at (ga_755 k) rfl)) (by omega)
  have hRR := R5_back (z1 := z1) (z2 := z2) hR hB0 hB1 x2 y2 (Sm.fr hF1 rfl) (Sm.fr hF2 rfl) (Sm.fr hF2 rfl) (Sm.fr hF2 rfl) (Sm.fr hF2 rfl) (Sm.fr hF2 rfl) (Sm.fr hF2 rfl) (Sm.fr hF2 rfl)
  have hR2 := hRR.1
  have hI2 : INV5 M2 (i + 6) := ⟨⟨⟨hP2, by omega, WS_sm (Sm.fr hF2 rfl) hW1, QW_sm (Sm.fr hF2 rfl) hQ1, by omega, by omega⟩, hA2, by omega, by omega, by omega, by omega⟩, hR2⟩
  exact wk_popi s0_467 (wk_goto s0_468 (wk_inc4 s0_919 rfl (wk_goto s0_922 (wp_fg (le_s (le_s (le_s (le_s (le_s (le_s (le_s le_0))))))) (hk M2 hI2)))))
theorem s0_471 : Rw 0 471 472 1 14 1 0 0 := rw_of (by decide +kernel)
theorem s0_472 : Rw 0 472 473 1 14 0 0 0 := rw_of (by decide +kernel)
theorem s0_473 : Rw 0 473 475 2 11 4 0 0 := rw_of (by decide +kernel)
theorem s0_475 : Rw 0 475 476 1 1 (cd 1) 2 0 := rw_of (by decide +kernel)
theorem s0_476 : Rw 0 476 477 1 30 0 0 0 := rw_of (by decide +kernel)
theorem s0_477 : Rw 0 477 478 1 97 0 0 0 := rw_of (by decide +kernel)
theorem s0_478 : Rw 0 478 479 1 14 3 0 0 := rw_of (by decide +kernel)
theorem s0_479 : Rw 0 479 482 3 113 264 3 111 := rw_of (by decide +kernel)
theorem s0_482 : Rw 0 482 484 2 17 5 0 0 := rw_of (by decide +kernel)
theorem s0_484 : Rw 0 484 485 1 14 2 0 0 := rw_of (by decide +kernel)
theorem s0_485 : Rw 0 485 486 1 14 0 0 0 := rw_of (by decide +kernel)
theorem s0_486 : Rw 0 486 488 2 11 4 0 0 := rw_of (by decide +kernel)
theorem s0_488 : Rw 0 488 489 1 1 (cd 1) 2 0 := rw_of (by decide +kernel)
theorem s0_489 : Rw 0 489 490 1 30 0 0 0 := rw_of (by decide +kernel)
theorem s0_490 : Rw 0 490 491 1 97 0 0 0 := rw_of (by decide +kernel)
theorem s0_491 : Rw 0 491 494 3 100 135 2 113 := rw_of (by decide +kernel)
theorem kc_739_135 : Kc 739 135 := kc_of (by decide) (by decide +kernel)
theorem s0_494 : Rw 0 494 496 2 17 6 0 0 := rw_of (by decide +kernel)
theorem s0_496 : Rw 0 496 499 3 60 919 0 0 := rw_of (by decide +kernel)
theorem law5_worlds {B : eB} {n i : Int} {d : Nat} {M : Mm} {Q : Nat → eV → Mm → Prop} (hB : SB B n) (h0 : 0 ≤ i) (h1 : i ≤ n - 6) (hI : INV5 M i) (hk : ∀ M2, INV5 M2 (i + 6) → Wp B (d + 80) 0 23 [some (R 4096), some (R 0), some (R 739), some (R 769), some (I (i + 6)), none, none] [] M2 Q) : Wp B (d + 80) 0 471 [some (R 4096), some (R 0), some (R 739), some (R 769), some (I i), none, none] [] M Q := by
  obtain ⟨⟨⟨hP, hT, hW, hQW, hg0, hg9⟩, hA, i9, i2, i5, i11⟩, hR⟩ := hI
  have hB0 := RB_of hP
  obtain ⟨Kf9, hk9, hd9, hc9, hq9⟩ := id hR
  refine wk_al1 s0_471 (wk_al0 s0_472 (wk_il4 s0_473 (wk_c1 s0_475 (wk_iadd s0_476 (wk_saldf hB s0_477 ⟨by omega, by omega⟩ ?_)))))
  intro a1 b1
  refine wk_al3 s0_478 (wk_cs113_3 s0_479 rfl (lw_worlds _ M (scf B (i + 1)) hP (by omega) (by omega)) (cqI ?_))
  rintro z1 M1 ⟨hP1, hF1, x0, x1, x2, x3⟩
  have hB1 := RB_of hP1
  refine wk_is5 s0_482 rfl (wk_al2 s0_484 (wk_al0 s0_485 (wk_il4 s0_486 (wk_c1 s0_488 (wk_iadd s0_489 (wk_saldf hB s0_490 ⟨by omega, by omega⟩ ?_))))))
  intro a2 b2
  have hW1 : WS M1 := WS_sm (Sm.fr hF1 rfl) hW
  have hQ1 : QW M1 := QW_sm (Sm.fr hF1 rfl) hQW
  refine wk_cv2 s0_491 kc_739_135 rfl (m135_739 _ M1 (scf B (i + 1)) hP1 (by omega) (by omega)) (cqI ?_)
  rintro z2 M2 ⟨hP2, hF2, y0, y1⟩
  have hg2 := hF2.at g_below rfl
  have hg1 : True := trivial
  have u_0_1 := hF1.at g_0_1 rfl
  have v_0_1 := hF2.at g_0_1 rfl
  have u_0_9 := hF1.at g_0_9 rfl
  have v_0_9 := hF2.at g_0_9 rfl
  have u_2_1 := hF1.at g_2_1 rfl
  have v_2_1 := hF2.at g_2_1 rfl
  have u_0_5 := hF1.at g_0_5 rfl
  have v_0_5 := hF2.at g_0_5 rfl
  have u_0_11 := hF1.at g_0_11 rfl
  have v_0_11 := hF2.at g_0_11 rfl
  have u_739_27 := hF1.at g_739_27 rfl
  have v_739_27 := hF2.at g_739_27 rfl
  have u_739_13 := hF1.at g_739_13 rfl
  have v_739_13 := hF2.at g_739_13 rfl
  have u_739_1 := hF1.at g_739_1 rfl
  have v_739_1 := hF2.at g_739_1 rfl
  have u_739_29 := hF1.at g_739_29 rfl
  have v_739_29 := hF2.at g_739_29 rfl
  have u_739_21 := hF1.at g_739_21 rfl
  have v_739_21 := hF2.at g_739_21 rfl
  have hb := bf_0_1 hP
  have hA2 : TA (fun k => M2 1 k) (fun k => M2 755 k) (M2 0 1) := TA_mv hA (fun k => (hF2.at (ga_1 k) rfl).trans (hF1.at (ga_1 k) rfl)) (fun k => (hF2.at (ga_755 k) rfl).trans (hF1.at (ga_755 k) rfl)) (by omega)
  have hR2 : RELW M2 := R5_2 hR hB0 hB1 (Sm.fr hF1 rfl) (Sm.fr hF1 rfl) (Sm.fr hF1 rfl) (Sm.fr hF1 rfl) (Sm.fr hF1 rfl) (Sm.fr hF1 rfl) (Sm.fr hF1 rfl) (Sm.fr hF1 rfl) (Sm.fr hF2 rfl) (Sm.fr hF2 rfl) (Sm.fr hF2 rfl) (Sm.fr hF2 rfl) (MSK_sm (Sm.fr hF2 rfl)) (MSD_sm (Sm.fr hF2 rfl)) (MSC_sm (Sm.fr hF2 rfl)) (MSQ_sm (Sm.fr hF2 rfl))
  have hI2 : INV5 M2 (i + 6) := ⟨⟨⟨hP2, by omega, WS_sm (Sm.fr hF2 rfl) hW1, QW_sm (Sm.fr hF2 rfl) hQ1, by omega, by omega⟩, hA2, by omega, by omega, by omega, by omega⟩, hR2⟩
  exact wk_is6 s0_494 rfl (wk_goto s0_496 (wk_inc4 s0_919 rfl (wk_goto s0_922 (wp_fg (le_s (le_s (le_s (le_s (le_s (le_n (le_n le_0))))))) (hk M2 hI2)))))
theorem s0_499 : Rw 0 499 500 1 14 1 0 0 := rw_of (by decide +kernel)
theorem s0_500 : Rw 0 500 501 1 14 0 0 0 := rw_of (by decide +kernel)
theorem s0_501 : Rw 0 501 503 2 11 4 0 0 := rw_of (by decide +kernel)
theorem s0_503 : Rw 0 503 504 1 1 (cd 1) 2 0 := rw_of (by decide +kernel)
theorem s0_504 : Rw 0 504 505 1 30 0 0 0 := rw_of (by decide +kernel)
theorem s0_505 : Rw 0 505 506 1 97 0 0 0 := rw_of (by decide +kernel)
theorem s0_506 : Rw 0 506 507 1 14 0 0 0 := rw_of (by decide +kernel)
theorem s0_507 : Rw 0 507 509 2 11 4 0 0 := rw_of (by decide +kernel)
theorem s0_509 : Rw 0 509 510 1 1 (cd 2) 3 0 := rw_of (by decide +kernel)
theorem s0_510 : Rw 0 510 511 1 30 0 0 0 := rw_of (by decide +kernel)
theorem s0_511 : Rw 0 511 512 1 97 0 0 0 := rw_of (by decide +kernel)
theorem s0_512 : Rw 0 512 513 1 14 3 0 0 := rw_of (by decide +kernel)
theorem s0_513 : Rw 0 513 516 3 113 263 4 114 := rw_of (by decide +kernel)
theorem s0_516 : Rw 0 516 518 2 17 5 0 0 := rw_of (by decide +kernel)
theorem s0_518 : Rw 0 518 519 1 14 2 0 0 := rw_of (by decide +kernel)
theorem s0_519 : Rw 0 519 520 1 14 0 0 0 := rw_of (by decide +kernel)
theorem s0_520 : Rw 0 520 522 2 11 4 0 0 := rw_of (by decide +kernel)
theorem s0_522 : Rw 0 522 523 1 1 (cd 1) 2 0 := rw_of (by decide +kernel)
theorem s0_523 : Rw 0 523 524 1 30 0 0 0 := rw_of (by decide +kernel)
theorem s0_524 : Rw 0 524 525 1 97 0 0 0 := rw_of (by decide +kernel)
theorem s0_525 : Rw 0 525 526 1 14 0 0 0 := rw_of (by decide +kernel)
theorem s0_526 : Rw 0 526 528 2 11 4 0 0 := rw_of (by decide +kernel)
theorem s0_528 : Rw 0 528 529 1 1 (cd 2) 3 0 := rw_of (by decide +kernel)
theorem s0_529 : Rw 0 529 530 1 30 0 0 0 := rw_of (by decide +kernel)
theorem s0_530 : Rw 0 530 531 1 97 0 0 0 := rw_of (by decide +kernel)
theorem s0_531 : Rw 0 531 534 3 100 134 3 116 := rw_of (by decide +kernel)
theorem kc_739_134 : Kc 739 134 := kc_of (by decide) (by decide +kernel)
theorem s0_534 : Rw 0 534 536 2 17 6 0 0 := rw_of (by decide +kernel)
theorem s0_536 : Rw 0 536 539 3 60 919 0 0 := rw_of (by decide +kernel)
theorem law5_world {B : eB} {n i : Int} {d : Nat} {M : Mm} {Q : Nat → eV → Mm → Prop} (hB : SB B n) (h0 : 0 ≤ i) (h1 : i ≤ n - 6) (hI : INV5 M i) (hk : ∀ M2, INV5 M2 (i + 6) → Wp B (d + 80) 0 23 [some (R 4096), some (R 0), some (R 739), some (R 769), some (I (i + 6)), none, none] [] M2 Q) : Wp B (d + 80) 0 499 [some (R 4096), some (R 0), some (R 739), some (R 769), some (I i), none, none] [] M Q := by
  obtain ⟨⟨⟨hP, hT, hW, hQW, hg0, hg9⟩, hA, i9, i2, i5, i11⟩, hR⟩ := hI
  have hB0 := RB_of hP
  obtain ⟨Kf9, hk9, hd9, hc9, hq9⟩ := id hR
  refine wk_al1 s0_499 (wk_al0 s0_500 (wk_il4 s0_501 (wk_c1 s0_503 (wk_iadd s0_504 (wk_saldf hB s0_505 ⟨by omega, by omega⟩ ?_)))))
  intro a1 b1
  refine wk_al0 s0_506 (wk_il4 s0_507 (wk_c1 s0_509 (wk_iadd s0_510 (wk_saldf hB s0_511 ⟨by omega, by omega⟩ ?_))))
  intro a2 b2
  refine wk_al3 s0_512 (wk_cs113_4 s0_513 rfl (lw_world _ M (scf B (i + 1)) (scf B (i + 2)) hP (by omega) (by omega) (by omega) (by omega)) (cqI ?_))
  rintro z1 M1 ⟨hP1, hF1, x0, x1, x2, x3⟩
  have hB1 := RB_of hP1
  refine wk_is5 s0_516 rfl (wk_al2 s0_518 (wk_al0 s0_519 (wk_il4 s0_520 (wk_c1 s0_522 (wk_iadd s0_523 (wk_saldf hB s0_524 ⟨by omega, by omega⟩ ?_))))))
  intro a3 b3
  refine wk_al0 s0_525 (wk_il4 s0_526 (wk_c1 s0_528 (wk_iadd s0_529 (wk_saldf hB s0_530 ⟨by omega, by omega⟩ ?_))))
  intro a4 b4
  have hW1 : WS M1 := WS_sm (Sm.fr hF1 rfl) hW
  have hQ1 : QW M1 := QW_sm (Sm.fr hF1 rfl) hQW
  refine wk_cv3 s0_531 kc_739_134 rfl (m134_739 _ M1 (scf B (i + 1)) (scf B (i + 2)) hP1 (by omega) (by omega) (by omega) (by omega)) (cqI ?_)
  rintro z2 M2 ⟨hP2, hF2, y0, y1⟩
  have hg2 := hF2.at g_below rfl
  have hg1 : True := trivial
  have u_0_1 := hF1.at g_0_1 rfl
  have v_0_1 := hF2.at g_0_1 rfl
  have u_0_9 := hF1.at g_0_9 rfl
  have v_0_9 := hF2.at g_0_9 rfl
  have u_2_1 := hF1.at g_2_1 rfl
  have v_2_1 := hF2.at g_2_1 rfl
  have u_0_5 := hF1.at g_0_5 rfl
  have v_0_5 := hF2.at g_0_5 rfl
  have u_0_11 := hF1.at g_0_11 rfl
  have v_0_11 := hF2.at g_0_11 rfl
  have u_739_27 := hF1.at g_739_27 rfl
  have v_739_27 := hF2.at g_739_27 rfl
  have u_739_13 := hF1.at g_739_13 rfl
  have v_739_13 := hF2.at g_739_13 rfl
  have u_739_1 := hF1.at g_739_1 rfl
  have v_739_1 := hF2.at g_739_1 rfl
  have u_739_29 := hF1.at g_739_29 rfl
  have v_739_29 := hF2.at g_739_29 rfl
  have u_739_21 := hF1.at g_739_21 rfl
  have v_739_21 := hF2.at g_739_21 rfl
  have hb := bf_0_1 hP
  have hA2 : TA (fun k => M2 1 k) (fun k => M2 755 k) (M2 0 1) := TA_mv hA (fun k => (hF2.at (ga_1 k) rfl).trans (hF1.at (ga_1 k) rfl)) (fun k => (hF2.at (ga_755 k) rfl).trans (hF1.at (ga_755 k) rfl)) (by omega)
  have hR2 : RELW M2 := R5_2 hR hB0 hB1 (Sm.fr hF1 rfl) (Sm.fr hF1 rfl) (Sm.fr hF1 rfl) (Sm.fr hF1 rfl) (Sm.fr hF1 rfl) (Sm.fr hF1 rfl) (Sm.fr hF1 rfl) (Sm.fr hF1 rfl) (Sm.fr hF2 rfl) (Sm.fr hF2 rfl) (Sm.fr hF2 rfl) (Sm.fr hF2 rfl) (MSK_sm (Sm.fr hF2 rfl)) (MSD_sm (Sm.fr hF2 rfl)) (MSC_sm (Sm.fr hF2 rfl)) (MSQ_sm (Sm.fr hF2 rfl))
  have hI2 : INV5 M2 (i + 6) := ⟨⟨⟨hP2, by omega, WS_sm (Sm.fr hF2 rfl) hW1, QW_sm (Sm.fr hF2 rfl) hQ1, by omega, by omega⟩, hA2, by omega, by omega, by omega, by omega⟩, hR2⟩
  exact wk_is6 s0_534 rfl (wk_goto s0_536 (wk_inc4 s0_919 rfl (wk_goto s0_922 (wp_fg (le_s (le_s (le_s (le_s (le_s (le_n (le_n le_0))))))) (hk M2 hI2)))))
theorem s0_539 : Rw 0 539 540 1 14 1 0 0 := rw_of (by decide +kernel)
theorem s0_540 : Rw 0 540 541 1 14 0 0 0 := rw_of (by decide +kernel)
theorem s0_541 : Rw 0 541 543 2 11 4 0 0 := rw_of (by decide +kernel)
theorem s0_543 : Rw 0 543 544 1 1 (cd 1) 2 0 := rw_of (by decide +kernel)
theorem s0_544 : Rw 0 544 545 1 30 0 0 0 := rw_of (by decide +kernel)
theorem s0_545 : Rw 0 545 546 1 97 0 0 0 := rw_of (by decide +kernel)
theorem s0_546 : Rw 0 546 547 1 14 3 0 0 := rw_of (by decide +kernel)
theorem s0_547 : Rw 0 547 550 3 113 262 3 117 := rw_of (by decide +kernel)
theorem s0_550 : Rw 0 550 552 2 17 5 0 0 := rw_of (by decide +kernel)
theorem s0_552 : Rw 0 552 553 1 14 2 0 0 := rw_of (by decide +kernel)
theorem s0_553 : Rw 0 553 554 1 14 0 0 0 := rw_of (by decide +kernel)
theorem s0_554 : Rw 0 554 556 2 11 4 0 0 := rw_of (by decide +kernel)
theorem s0_556 : Rw 0 556 557 1 1 (cd 1) 2 0 := rw_of (by decide +kernel)
theorem s0_557 : Rw 0 557 558 1 30 0 0 0 := rw_of (by decide +kernel)
theorem s0_558 : Rw 0 558 559 1 97 0 0 0 := rw_of (by decide +kernel)
theorem s0_559 : Rw 0 559 562 3 100 132 2 119 := rw_of (by decide +kernel)
theorem kc_739_132 : Kc 739 132 := kc_of (by decide) (by decide +kernel)
theorem s0_562 : Rw 0 562 564 2 17 6 0 0 := rw_of (by decide +kernel)
theorem s0_564 : Rw 0 564 567 3 60 919 0 0 := rw_of (by decide +kernel)
theorem law5_told {B : eB} {n i : Int} {d : Nat} {M : Mm} {Q : Nat → eV → Mm → Prop} (hB : SB B n) (h0 : 0 ≤ i) (h1 : i ≤ n - 6) (hI : INV5 M i) (hk : ∀ M2, INV5 M2 (i + 6) → Wp B (d + 80) 0 23 [some (R 4096), some (R 0), some (R 739), some (R 769), some (I (i + 6)), none, none] [] M2 Q) : Wp B (d + 80) 0 539 [some (R 4096), some (R 0), some (R 739), some (R 769), some (I i), none, none] [] M Q := by
  obtain ⟨⟨⟨hP, hT, hW, hQW, hg0, hg9⟩, hA, i9, i2, i5, i11⟩, hR⟩ := hI
  have hB0 := RB_of hP
  obtain ⟨Kf9, hk9, hd9, hc9, hq9⟩ := id hR
  refine wk_al1 s0_539 (wk_al0 s0_540 (wk_il4 s0_541 (wk_c1 s0_543 (wk_iadd s0_544 (wk_saldf hB s0_545 ⟨by omega, by omega⟩ ?_)))))
  intro a1 b1
  refine wk_al3 s0_546 (wk_cs113_3 s0_547 rfl (lw_told _ M (scf B (i + 1)) hP (by omega) (by omega)) (cqI ?_))
  rintro z1 M1 ⟨hP1, hF1, x0, x1, x2, x3⟩
  have hB1 := RB_of hP1
  refine wk_is5 s0_550 rfl (wk_al2 s0_552 (wk_al0 s0_553 (wk_il4 s0_554 (wk_c1 s0_556 (wk_iadd s0_557 (wk_saldf hB s0_558 ⟨by omega, by omega⟩ ?_))))))
  intro a2 b2
  have hW1 : WS M1 := WS_sm (Sm.fr hF1 rfl) hW
  have hQ1 : QW M1 := QW_sm (Sm.fr hF1 rfl) hQW
  refine wk_cv2 s0_559 kc_739_132 rfl (m132_739 _ M1 (scf B (i + 1)) hP1 (by omega) (by omega)) (cqI ?_)
  rintro z2 M2 ⟨hP2, hF2, y0, y1⟩
  have hg2 := hF2.at g_below rfl
  have hg1 : True := trivial
  have u_0_1 := hF1.at g_0_1 rfl
  have v_0_1 := hF2.at g_0_1 rfl
  have u_0_9 := hF1.at g_0_9 rfl
  have v_0_9 := hF2.at g_0_9 rfl
  have u_2_1 := hF1.at g_2_1 rfl
  have v_2_1 := hF2.at g_2_1 rfl
  have u_0_5 := hF1.at g_0_5 rfl
  have v_0_5 := hF2.at g_0_5 rfl
  have u_0_11 := hF1.at g_0_11 rfl
  have v_0_11 := hF2.at g_0_11 rfl
  have u_739_27 := hF1.at g_739_27 rfl
  have v_739_27 := hF2.at g_739_27 rfl
  have u_739_13 := hF1.at g_739_13 rfl
  have v_739_13 := hF2.at g_739_13 rfl
  have u_739_1 := hF1.at g_739_1 rfl
  have v_739_1 := hF2.at g_739_1 rfl
  have u_739_29 := hF1.at g_739_29 rfl
  have v_739_29 := hF2.at g_739_29 rfl
  have u_739_21 := hF1.at g_739_21 rfl
  have v_739_21 := hF2.at g_739_21 rfl
  have hb := bf_0_1 hP
  have hA2 : TA (fun k => M2 1 k) (fun k => M2 755 k) (M2 0 1) := TA_mv hA (fun k => (hF2.at (ga_1 k) rfl).trans (hF1.at (ga_1 k) rfl)) (fun k => (hF2.at (ga_755 k) rfl).trans (hF1.at (ga_755 k) rfl)) (by omega)
  have hR2 : RELW M2 := R5_2 hR hB0 hB1 (Sm.fr hF1 rfl) (Sm.fr hF1 rfl) (Sm.fr hF1 rfl) (Sm.fr hF1 rfl) (Sm.fr hF1 rfl) (Sm.fr hF1 rfl) (Sm.fr hF1 rfl) (Sm.fr hF1 rfl) (Sm.fr hF2 rfl) (Sm.fr hF2 rfl) (Sm.fr hF2 rfl) (Sm.fr hF2 rfl) (MSK_sm (Sm.fr hF2 rfl)) (MSD_sm (Sm.fr hF2 rfl)) (MSC_sm (Sm.fr hF2 rfl)) (MSQ_sm (Sm.fr hF2 rfl))
  have hI2 : INV5 M2 (i + 6) := ⟨⟨⟨hP2, by omega, WS_sm (Sm.fr hF2 rfl) hW1, QW_sm (Sm.fr hF2 rfl) hQ1, by omega, by omega⟩, hA2, by omega, by omega, by omega, by omega⟩, hR2⟩
  exact wk_is6 s0_562 rfl (wk_goto s0_564 (wk_inc4 s0_919 rfl (wk_goto s0_922 (wp_fg (le_s (le_s (le_s (le_s (le_s (le_n (le_n le_0))))))) (hk M2 hI2)))))
theorem s0_567 : Rw 0 567 568 1 14 1 0 0 := rw_of (by decide +kernel)
theorem s0_568 : Rw 0 568 569 1 14 0 0 0 := rw_of (by decide +kernel)
theorem s0_569 : Rw 0 569 571 2 11 4 0 0 := rw_of (by decide +kernel)
theorem s0_571 : Rw 0 571 572 1 1 (cd 1) 2 0 := rw_of (by decide +kernel)
theorem s0_572 : Rw 0 572 573 1 30 0 0 0 := rw_of (by decide +kernel)
theorem s0_573 : Rw 0 573 574 1 97 0 0 0 := rw_of (by decide +kernel)
theorem s0_574 : Rw 0 574 575 1 14 3 0 0 := rw_of (by decide +kernel)
theorem s0_575 : Rw 0 575 578 3 113 248 3 120 := rw_of (by decide +kernel)
theorem s0_578 : Rw 0 578 580 2 17 5 0 0 := rw_of (by decide +kernel)
theorem s0_580 : Rw 0 580 581 1 14 2 0 0 := rw_of (by decide +kernel)
theorem s0_581 : Rw 0 581 582 1 14 0 0 0 := rw_of (by decide +kernel)
theorem s0_582 : Rw 0 582 584 2 11 4 0 0 := rw_of (by decide +kernel)
theorem s0_584 : Rw 0 584 585 1 1 (cd 1) 2 0 := rw_of (by decide +kernel)
theorem s0_585 : Rw 0 585 586 1 30 0 0 0 := rw_of (by decide +kernel)
theorem s0_586 : Rw 0 586 587 1 97 0 0 0 := rw_of (by decide +kernel)
theorem s0_587 : Rw 0 587 590 3 100 55 2 122 := rw_of (by decide +kernel)
theorem kc_739_55 : Kc 739 55 := kc_of (by decide) (by decide +kernel)
theorem s0_590 : Rw 0 590 592 2 17 6 0 0 := rw_of (by decide +kernel)
theorem s0_592 : Rw 0 592 595 3 60 919 0 0 := rw_of (by decide +kernel)
theorem law5_can {B : eB} {n i : Int} {d : Nat} {M : Mm} {Q : Nat → eV → Mm → Prop} (hB : SB B n) (h0 : 0 ≤ i) (h1 : i ≤ n - 6) (hI : INV5 M i) (hk : ∀ M2, INV5 M2 (i + 6) → Wp B (d + 80) 0 23 [some (R 4096), some (R 0), some (R 739), some (R 769), some (I (i + 6)), none, none] [] M2 Q) : Wp B (d + 80) 0 567 [some (R 4096), some (R 0), some (R 739), some (R 769), some (I i), none, none] [] M Q := by
  obtain ⟨⟨⟨hP, hT, hW, hQW, hg0, hg9⟩, hA, i9, i2, i5, i11⟩, hR⟩ := hI
  have hB0 := RB_of hP
  obtain ⟨Kf9, hk9, hd9, hc9, hq9⟩ := id hR
  refine wk_al1 s0_567 (wk_al0 s0_568 (wk_il4 s0_569 (wk_c1 s0_571 (wk_iadd s0_572 (wk_saldf hB s0_573 ⟨by omega, by omega⟩ ?_)))))
  intro a1 b1
  refine wk_al3 s0_574 (wk_cs113_3 s0_575 rfl (lw_can _ M (scf B (i + 1)) hP (by omega) (by omega)) (cqI ?_))
  rintro z1 M1 ⟨hP1, hF1, x0, x1, x2, x3⟩
  have hB1 := RB_of hP1
  refine wk_is5 s0_578 rfl (wk_al2 s0_580 (wk_al0 s0_581 (wk_il4 s0_582 (wk_c1 s0_584 (wk_iadd s0_585 (wk_saldf hB s0_586 ⟨by omega, by omega⟩ ?_))))))
  intro a2 b2
  have hW1 : WS M1 := WS_sm (Sm.fr hF1 rfl) hW
  have hQ1 : QW M1 := QW_sm (Sm.fr hF1 rfl) hQW
  refine wk_cv2 s0_587 kc_739_55 rfl (m9055_739 _ M1 (scf B (i + 1)) hP1 (by omega) (by omega)) (cqI ?_)
  rintro z2 M2 ⟨hP2, hF2, y0, y1⟩
  have hg2 := hF2.at g_below rfl
  have hg1 : True := trivial
  have u_0_1 := hF1.at g_0_1 rfl
  have v_0_1 := hF2.at g_0_1 rfl
  have u_0_9 := hF1.at g_0_9 rfl
  have v_0_9 := hF2.at g_0_9 rfl
  have u_2_1 := hF1.at g_2_1 rfl
  have v_2_1 := hF2.at g_2_1 rfl
  have u_0_5 := hF1.at g_0_5 rfl
  have v_0_5 := hF2.at g_0_5 rfl
  have u_0_11 := hF1.at g_0_11 rfl
  have v_0_11 := hF2.at g_0_11 rfl
  have u_739_27 := hF1.at g_739_27 rfl
  have v_739_27 := hF2.at g_739_27 rfl
  have u_739_13 := hF1.at g_739_13 rfl
  have v_739_13 := hF2.at g_739_13 rfl
  have u_739_1 := hF1.at g_739_1 rfl
  have v_739_1 := hF2.at g_739_1 rfl
  have u_739_29 := hF1.at g_739_29 rfl
  have v_739_29 := hF2.at g_739_29 rfl
  have u_739_21 := hF1.at g_739_21 rfl
  have v_739_21 := hF2.at g_739_21 rfl
  have hb := bf_0_1 hP
  have hA2 : TA (fun k => M2 1 k) (fun k => M2 755 k) (M2 0 1) := TA_mv hA (fun k => (hF2.at (ga_1 k) rfl).trans (hF1.at (ga_1 k) rfl)) (fun k => (hF2.at (ga_755 k) rfl).trans (hF1.at (ga_755 k) rfl)) (by omega)
  have hR2 : RELW M2 := R5_2 hR hB0 hB1 (Sm.fr hF1 rfl) (Sm.fr hF1 rfl) (Sm.fr hF1 rfl) (Sm.fr hF1 rfl) (Sm.fr hF1 rfl) (Sm.fr hF1 rfl) (Sm.fr hF1 rfl) (Sm.fr hF1 rfl) (Sm.fr hF2 rfl) (Sm.fr hF2 rfl) (Sm.fr hF2 rfl) (Sm.fr hF2 rfl) (MSK_sm (Sm.fr hF2 rfl)) (MSD_sm (Sm.fr hF2 rfl)) (MSC_sm (Sm.fr hF2 rfl)) (MSQ_sm (Sm.fr hF2 rfl))
  have hI2 : INV5 M2 (i + 6) := ⟨⟨⟨hP2, by omega, WS_sm (Sm.fr hF2 rfl) hW1, QW_sm (Sm.fr hF2 rfl) hQ1, by omega, by omega⟩, hA2, by omega, by omega, by omega, by omega⟩, hR2⟩
  exact wk_is6 s0_590 rfl (wk_goto s0_592 (wk_inc4 s0_919 rfl (wk_goto s0_922 (wp_fg (le_s (le_s (le_s (le_s (le_s (le_n (le_n le_0))))))) (hk M2 hI2)))))
theorem s0_595 : Rw 0 595 596 1 14 1 0 0 := rw_of (by decide +kernel)
theorem s0_596 : Rw 0 596 597 1 14 0 0 0 := rw_of (by decide +kernel)
theorem s0_597 : Rw 0 597 599 2 11 4 0 0 := rw_of (by decide +kernel)
theorem s0_599 : Rw 0 599 600 1 1 (cd 1) 2 0 := rw_of (by decide +kernel)
theorem s0_600 : Rw 0 600 601 1 30 0 0 0 := rw_of (by decide +kernel)
theorem s0_601 : Rw 0 601 602 1 97 0 0 0 := rw_of (by decide +kernel)
theorem s0_602 : Rw 0 602 603 1 14 0 0 0 := rw_of (by decide +kernel)
theorem s0_603 : Rw 0 603 605 2 11 4 0 0 := rw_of (by decide +kernel)
theorem s0_605 : Rw 0 605 606 1 1 (cd 2) 3 0 := rw_of (by decide +kernel)
theorem s0_606 : Rw 0 606 607 1 30 0 0 0 := rw_of (by decide +kernel)
theorem s0_607 : Rw 0 607 608 1 97 0 0 0 := rw_of (by decide +kernel)
theorem s0_608 : Rw 0 608 609 1 14 3 0 0 := rw_of (by decide +kernel)
theorem s0_609 : Rw 0 609 612 3 113 249 4 123 := rw_of (by decide +kernel)
theorem s0_612 : Rw 0 612 614 2 17 5 0 0 := rw_of (by decide +kernel)
theorem s0_614 : Rw 0 614 615 1 14 2 0 0 := rw_of (by decide +kernel)
theorem s0_615 : Rw 0 615 616 1 14 0 0 0 := rw_of (by decide +kernel)
theorem s0_616 : Rw 0 616 618 2 11 4 0 0 := rw_of (by decide +kernel)
theorem s0_618 : Rw 0 618 619 1 1 (cd 1) 2 0 := rw_of (by decide +kernel)
theorem s0_619 : Rw 0 619 620 1 30 0 0 0 := rw_of (by decide +kernel)
theorem s0_620 : Rw 0 620 621 1 97 0 0 0 := rw_of (by decide +kernel)
theorem s0_621 : Rw 0 621 622 1 14 0 0 0 := rw_of (by decide +kernel)
theorem s0_622 : Rw 0 622 624 2 11 4 0 0 := rw_of (by decide +kernel)
theorem s0_624 : Rw 0 624 625 1 1 (cd 2) 3 0 := rw_of (by decide +kernel)
theorem s0_625 : Rw 0 625 626 1 30 0 0 0 := rw_of (by decide +kernel)
theorem s0_626 : Rw 0 626 627 1 97 0 0 0 := rw_of (by decide +kernel)
theorem s0_627 : Rw 0 627 630 3 100 60 3 125 := rw_of (by decide +kernel)
theorem kc_739_60 : Kc 739 60 := kc_of (by decide) (by decide +kernel)
theorem s0_630 : Rw 0 630 632 2 17 6 0 0 := rw_of (by decide +kernel)
theorem s0_632 : Rw 0 632 635 3 60 919 0 0 := rw_of (by decide +kernel)
theorem law5_could {B : eB} {n i : Int} {d : Nat} {M : Mm} {Q : Nat → eV → Mm → Prop} (hB : SB B n) (h0 : 0 ≤ i) (h1 : i ≤ n - 6) (hI : INV5 M i) (hk : ∀ M2, INV5 M2 (i + 6) → Wp B (d + 80) 0 23 [some (R 4096), some (R 0), some (R 739), some (R 769), some (I (i + 6)), none, none] [] M2 Q) : Wp B (d + 80) 0 595 [some (R 4096), some (R 0), some (R 739), some (R 769), some (I i), none, none] [] M Q := by
  obtain ⟨⟨⟨hP, hT, hW, hQW, hg0, hg9⟩, hA, i9, i2, i5, i11⟩, hR⟩ := hI
  have hB0 := RB_of hP
  obtain ⟨Kf9, hk9, hd9, hc9, hq9⟩ := id hR
  refine wk_al1 s0_595 (wk_al0 s0_596 (wk_il4 s0_597 (wk_c1 s0_599 (wk_iadd s0_600 (wk_saldf hB s0_601 ⟨by omega, by omega⟩ ?_)))))
  intro a1 b1
  refine wk_al0 s0_602 (wk_il4 s0_603 (wk_c1 s0_605 (wk_iadd s0_606 (wk_saldf hB s0_607 ⟨by omega, by omega⟩ ?_))))
  intro a2 b2
  refine wk_al3 s0_608 (wk_cs113_4 s0_609 rfl (lw_could _ M (scf B (i + 1)) (scf B (i + 2)) hP (by omega) (by omega) (by omega) (by omega)) (cqI ?_))
  rintro z1 M1 ⟨hP1, hF1, x0, x1, x2, x3⟩
  have hB1 := RB_of hP1
  refine wk_is5 s0_612 rfl (wk_al2 s0_614 (wk_al0 s0_615 (wk_il4 s0_616 (wk_c1 s0_618 (wk_iadd s0_619 (wk_saldf hB s0_620 ⟨by omega, by omega⟩ ?_))))))
  intro a3 b3
  refine wk_al0 s0_621 (wk_il4 s0_622 (wk_c1 s0_624 (wk_iadd s0_625 (wk_saldf hB s0_626 ⟨by omega, by omega⟩ ?_))))
  intro a4 b4
  have hW1 : WS M1 := WS_sm (Sm.fr hF1 rfl) hW
  have hQ1 : QW M1 := QW_sm (Sm.fr hF1 rfl) hQW
  refine wk_cv3 s0_627 kc_739_60 rfl (m9060_739 _ M1 (scf B (i + 1)) (scf B (i + 2)) (M1 739 13) (M1 739 1) hP1 (by omega) (by omega) (by omega) (by omega) rfl (bf_739_13 hP1).1 (bf_739_13 hP1).2 rfl (bf_739_1 hP1).1 (bf_739_1 hP1).2 hW1) (cqI ?_)
  rintro z2 M2 ⟨hP2, hF2, y0, y1, y2⟩
  have hg2 := hF2.at g_below rfl
  have hg1 : True := trivial
  have u_0_1 := hF1.at g_0_1 rfl
  have v_0_1 := hF2.at g_0_1 rfl
  have u_0_9 := hF1.at g_0_9 rfl
  have v_0_9 := hF2.at g_0_9 rfl
  have u_2_1 := hF1.at g_2_1 rfl
  have v_2_1 := hF2.at g_2_1 rfl
  have u_0_5 := hF1.at g_0_5 rfl
  have v_0_5 := hF2.at g_0_5 rfl
  have u_0_11 := hF1.at g_0_11 rfl
  have v_0_11 := hF2.at g_0_11 rfl
  have u_739_27 := hF1.at g_739_27 rfl
  have v_739_27 := hF2.at g_739_27 rfl
  have u_739_13 := hF1.at g_739_13 rfl
  have v_739_13 := hF2.at g_739_13 rfl
  have u_739_1 := hF1.at g_739_1 rfl
  have v_739_1 := hF2.at g_739_1 rfl
  have u_739_29 := hF1.at g_739_29 rfl
  have v_739_29 := hF2.at g_739_29 rfl
  have u_739_21 := hF1.at g_739_21 rfl
  have v_739_21 := hF2.at g_739_21 rfl
  have hb := bf_0_1 hP
  have hA2 : TA (fun k => M2 1 k) (fun k => M2 755 k) (M2 0 1) := TA_mv hA (fun k => (hF2.at (ga_1 k) rfl).trans (hF1.at (ga_1 k) rfl)) (fun k => (hF2.at (ga_755 k) rfl).trans (hF1.at (ga_755 k) rfl)) (by omega)
  have hR2 : RELW M2 := R5_2 hR hB0 hB1 (Sm.fr hF1 rfl) (Sm.fr hF1 rfl) (Sm.fr hF1 rfl) (Sm.fr hF1 rfl) (Sm.fr hF1 rfl) (Sm.fr hF1 rfl) (Sm.fr hF1 rfl) (Sm.fr hF1 rfl) (Sm.fr hF2 rfl) (Sm.fr hF2 rfl) (Sm.fr hF2 rfl) (Sm.fr hF2 rfl) (MSK_sm (Sm.fr hF2 rfl)) (MSD_sm (Sm.fr hF2 rfl)) (MSC_sm (Sm.fr hF2 rfl)) (MSQ_sm (Sm.fr hF2 rfl))
  have hI2 : INV5 M2 (i + 6) := ⟨⟨⟨hP2, by omega, y2, QW_sm (Sm.fr hF2 rfl) hQ1, by omega, by omega⟩, hA2, by omega, by omega, by omega, by omega⟩, hR2⟩
  exact wk_is6 s0_630 rfl (wk_goto s0_632 (wk_inc4 s0_919 rfl (wk_goto s0_922 (wp_fg (le_s (le_s (le_s (le_s (le_s (le_n (le_n le_0))))))) (hk M2 hI2)))))
theorem s0_635 : Rw 0 635 636 1 14 1 0 0 := rw_of (by decide +kernel)
theorem s0_636 : Rw 0 636 639 3 100 32 1 126 := rw_of (by decide +kernel)
theorem kc_0_32 : Kc 0 32 := kc_of (by decide) (by decide +kernel)
theorem s0_639 : Rw 0 639 640 1 53 0 0 0 := rw_of (by decide +kernel)
theorem s0_640 : Rw 0 640 641 1 14 2 0 0 := rw_of (by decide +kernel)
theorem s0_641 : Rw 0 641 644 3 100 113 1 129 := rw_of (by decide +kernel)
theorem kc_739_113 : Kc 739 113 := kc_of (by decide) (by decide +kernel)
theorem s0_644 : Rw 0 644 645 1 53 0 0 0 := rw_of (by decide +kernel)
theorem s0_645 : Rw 0 645 648 3 60 919 0 0 := rw_of (by decide +kernel)
theorem law5_needless {B : eB} {n i : Int} {d : Nat} {M : Mm} {Q : Nat → eV → Mm → Prop} (hB : SB B n) (h0 : 0 ≤ i) (h1 : i ≤ n - 6) (hI : INV5 M i) (hk : ∀ M2, INV5 M2 (i + 6) → Wp B (d + 80) 0 23 [some (R 4096), some (R 0), some (R 739), some (R 769), some (I (i + 6)), none, none] [] M2 Q) : Wp B (d + 80) 0 635 [some (R 4096), some (R 0), some (R 739), some (R 769), some (I i), none, none] [] M Q := by
  obtain ⟨⟨⟨hP, hT, hW, hQW, hg0, hg9⟩, hA, i9, i2, i5, i11⟩, hR⟩ := hI
  have hB0 := RB_of hP
  obtain ⟨Kf9, hk9, hd9, hc9, hq9⟩ := id hR
  refine wk_al1 s0_635 (wk_cv1 s0_636 kc_0_32 rfl (m32_0 _ M  hP ) (cqI ?_))
  rintro z1 M1 ⟨hP1, hF1, x0, x1⟩
  have hB1 := RB_of hP1
  refine wk_popi s0_639 (wk_al2 s0_640 ?_)
  have hW1 : WS M1 := WS_sm (Sm.fr hF1 rfl) hW
  have hQ1 : QW M1 := QW_sm (Sm.fr hF1 rfl) hQW
  refine wk_cv1 s0_641 kc_739_113 rfl (m113_739 _ M1  hP1 ) (cqI ?_)
  rintro z2 M2 ⟨hP2, hF2, y0, y1⟩
  have hg2 := hF2.at g_below rfl
  have hg1 := hF1.at g_below rfl
  have u_0_1 := hF1.at g_0_1 rfl
  have v_0_1 := hF2.at g_0_1 rfl
  have u_0_9 := hF1.at g_0_9 rfl
  have v_0_9 := hF2.at g_0_9 rfl
  have u_2_1 := hF1.at g_2_1 rfl
  have v_2_1 := hF2.at g_2_1 rfl
  have u_0_5 := hF1.at g_0_5 rfl
  have v_0_5 := hF2.at g_0_5 rfl
  have u_0_11 := hF1.at g_0_11 rfl
  have v_0_11 := hF2.at g_0_11 rfl
  have u_739_27 := hF1.at g_739_27 rfl
  have v_739_27 := hF2.at g_739_27 rfl
  have u_739_13 := hF1.at g_739_13 rfl
  have v_739_13 := hF2.at g_739_13 rfl
  have u_739_1 := hF1.at g_739_1 rfl
  have v_739_1 := hF2.at g_739_1 rfl
  have u_739_29 := hF1.at g_739_29 rfl
  have v_739_29 := hF2.at g_739_29 rfl
  have u_739_21 := hF1.at g_739_21 rfl
  have v_739_21 := hF2.at g_739_21 rfl
  have hb := bf_0_1 hP
  have hA2 : TA (fun k => M2 1 k) (fun k => M2 755 k) (M2 0 1) := TA_mv hA (fun k => (hF2.at (ga_1 k) rfl).trans (hF1.at (ga_1 k) rfl)) (fun k => (hF2.at (ga_755 k) rfl).trans (hF1.at (ga_755 k) rfl)) (by omega)
  have hR2 : RELW M2 := R5_2 hR hB0 hB1 (Sm.fr hF1 rfl) (Sm.fr hF1 rfl) (Sm.fr hF1 rfl) (Sm.fr hF1 rfl) (Sm.fr hF1 rfl) (Sm.fr hF1 rfl) (Sm.fr hF1 rfl) (Sm.fr hF1 rfl) (Sm.fr hF2 rfl) (Sm.fr hF2 rfl) (Sm.fr hF2 rfl) (Sm.fr hF2 rfl) (MSK_sm (Sm.fr hF2 rfl)) (MSD_sm (Sm.fr hF2 rfl)) (MSC_sm (Sm.fr hF2 rfl)) (MSQ_sm (Sm.fr hF2 rfl))
  have hI2 : INV5 M2 (i + 6) := ⟨⟨⟨hP2, by omega, WS_sm (Sm.fr hF2 rfl) hW1, QW_sm (Sm.fr hF2 rfl) hQ1, by omega, by omega⟩, hA2, by omega, by omega, by omega, by omega⟩, hR2⟩
  exact wk_popi s0_644 (wk_goto s0_645 (wk_inc4 s0_919 rfl (wk_goto s0_922 (wp_fg (le_s (le_s (le_s (le_s (le_s (le_s (le_s le_0))))))) (hk M2 hI2)))))
theorem s0_648 : Rw 0 648 649 1 14 1 0 0 := rw_of (by decide +kernel)
theorem s0_649 : Rw 0 649 650 1 14 0 0 0 := rw_of (by decide +kernel)
theorem s0_650 : Rw 0 650 652 2 11 4 0 0 := rw_of (by decide +kernel)
theorem s0_652 : Rw 0 652 653 1 1 (cd 1) 2 0 := rw_of (by decide +kernel)
theorem s0_653 : Rw 0 653 654 1 30 0 0 0 := rw_of (by decide +kernel)
theorem s0_654 : Rw 0 654 655 1 97 0 0 0 := rw_of (by decide +kernel)
theorem s0_655 : Rw 0 655 656 1 14 3 0 0 := rw_of (by decide +kernel)
theorem s0_656 : Rw 0 656 659 3 113 251 3 130 := rw_of (by decide +kernel)
theorem s0_659 : Rw 0 659 661 2 17 5 0 0 := rw_of (by decide +kernel)
theorem s0_661 : Rw 0 661 662 1 14 2 0 0 := rw_of (by decide +kernel)
theorem s0_662 : Rw 0 662 663 1 14 0 0 0 := rw_of (by decide +kernel)
theorem s0_663 : Rw 0 663 665 2 11 4 0 0 := rw_of (by decide +kernel)
theorem s0_665 : Rw 0 665 666 1 1 (cd 1) 2 0 := rw_of (by decide +kernel)
theorem s0_666 : Rw 0 666 667 1 30 0 0 0 := rw_of (by decide +kernel)
theorem s0_667 : Rw 0 667 668 1 97 0 0 0 := rw_of (by decide +kernel)
theorem s0_668 : Rw 0 668 671 3 100 66 2 132 := rw_of (by decide +kernel)
theorem kc_739_66 : Kc 739 66 := kc_of (by decide) (by decide +kernel)
theorem s0_671 : Rw 0 671 673 2 17 6 0 0 := rw_of (by decide +kernel)
theorem s0_673 : Rw 0 673 676 3 60 919 0 0 := rw_of (by decide +kernel)
theorem law5_enough {B : eB} {n i : Int} {d : Nat} {M : Mm} {Q : Nat → eV → Mm → Prop} (hB : SB B n) (h0 : 0 ≤ i) (h1 : i ≤ n - 6) (hI : INV5 M i) (hk : ∀ M2, INV5 M2 (i + 6) → Wp B (d + 80) 0 23 [some (R 4096), some (R 0), some (R 739), some (R 769), some (I (i + 6)), none, none] [] M2 Q) : Wp B (d + 80) 0 648 [some (R 4096), some (R 0), some (R 739), some (R 769), some (I i), none, none] [] M Q := by
  obtain ⟨⟨⟨hP, hT, hW, hQW, hg0, hg9⟩, hA, i9, i2, i5, i11⟩, hR⟩ := hI
  have hB0 := RB_of hP
  obtain ⟨Kf9, hk9, hd9, hc9, hq9⟩ := id hR
  refine wk_al1 s0_648 (wk_al0 s0_649 (wk_il4 s0_650 (wk_c1 s0_652 (wk_iadd s0_653 (wk_saldf hB s0_654 ⟨by omega, by omega⟩ ?_)))))
  intro a1 b1
  refine wk_al3 s0_655 (wk_cs113_3 s0_656 rfl (lw_enough _ M (scf B (i + 1)) hP (by omega) (by omega)) (cqI ?_))
  rintro z1 M1 ⟨hP1, hF1, x0, x1, x2, x3⟩
  have hB1 := RB_of hP1
  refine wk_is5 s0_659 rfl (wk_al2 s0_661 (wk_al0 s0_662 (wk_il4 s0_663 (wk_c1 s0_665 (wk_iadd s0_666 (wk_saldf hB s0_667 ⟨by omega, by omega⟩ ?_))))))
  intro a2 b2
  have hW1 : WS M1 := WS_sm (Sm.fr hF1 rfl) hW
  have hQ1 : QW M1 := QW_sm (Sm.fr hF1 rfl) hQW
  refine wk_cv2 s0_668 kc_739_66 rfl (m66_739 _ M1 (scf B (i + 1)) hP1 (by omega) (by omega)) (cqI ?_)
  rintro z2 M2 ⟨hP2, hF2, y0, y1⟩
  have hg2 := hF2.at g_below rfl
  have hg1 : True := trivial
  have u_0_1 := hF1.at g_0_1 rfl
  have v_0_1 := hF2.at g_0_1 rfl
  have u_0_9 := hF1.at g_0_9 rfl
  have v_0_9 := hF2.at g_0_9 rfl
  have u_2_1 := hF1.at g_2_1 rfl
  have v_2_1 := hF2.at g_2_1 rfl
  have u_0_5 := hF1.at g_0_5 rfl
  have v_0_5 := hF2.at g_0_5 rfl
  have u_0_11 := hF1.at g_0_11 rfl
  have v_0_11 := hF2.at g_0_11 rfl
  have u_739_27 := hF1.at g_739_27 rfl
  have v_739_27 := hF2.at g_739_27 rfl
  have u_739_13 := hF1.at g_739_13 rfl
  have v_739_13 := hF2.at g_739_13 rfl
  have u_739_1 := hF1.at g_739_1 rfl
  have v_739_1 := hF2.at g_739_1 rfl
  have u_739_29 := hF1.at g_739_29 rfl
  have v_739_29 := hF2.at g_739_29 rfl
  have u_739_21 := hF1.at g_739_21 rfl
  have v_739_21 := hF2.at g_739_21 rfl
  have hb := bf_0_1 hP
  have hA2 : TA (fun k => M2 1 k) (fun k => M2 755 k) (M2 0 1) := TA_mv hA (fun k => (hF2.at (ga_1 k) rfl).trans (hF1.at (ga_1 k) rfl)) (fun k => (hF2.at (ga_755 k) rfl).trans (hF1.at (ga_755 k) rfl)) (by omega)
  have hR2 : RELW M2 := R5_2 hR hB0 hB1 (Sm.fr hF1 rfl) (Sm.fr hF1 rfl) (Sm.fr hF1 rfl) (Sm.fr hF1 rfl) (Sm.fr hF1 rfl) (Sm.fr hF1 rfl) (Sm.fr hF1 rfl) (Sm.fr hF1 rfl) (Sm.fr hF2 rfl) (Sm.fr hF2 rfl) (Sm.fr hF2 rfl) (Sm.fr hF2 rfl) (MSK_sm (Sm.fr hF2 rfl)) (MSD_sm (Sm.fr hF2 rfl)) (MSC_sm (Sm.fr hF2 rfl)) (MSQ_sm (Sm.fr hF2 rfl))
  have hI2 : INV5 M2 (i + 6) := ⟨⟨⟨hP2, by omega, WS_sm (Sm.fr hF2 rfl) hW1, QW_sm (Sm.fr hF2 rfl) hQ1, by omega, by omega⟩, hA2, by omega, by omega, by omega, by omega⟩, hR2⟩
  exact wk_is6 s0_671 rfl (wk_goto s0_673 (wk_inc4 s0_919 rfl (wk_goto s0_922 (wp_fg (le_s (le_s (le_s (le_s (le_s (le_n (le_n le_0))))))) (hk M2 hI2)))))
theorem s0_676 : Rw 0 676 677 1 14 1 0 0 := rw_of (by decide +kernel)
theorem s0_677 : Rw 0 677 680 3 100 26 1 133 := rw_of (by decide +kernel)
theorem kc_0_26 : Kc 0 26 := kc_of (by decide) (by decide +kernel)
theorem s0_680 : Rw 0 680 681 1 53 0 0 0 := rw_of (by decide +kernel)
theorem s0_681 : Rw 0 681 682 1 14 2 0 0 := rw_of (by decide +kernel)
theorem s0_682 : Rw 0 682 685 3 100 96 1 136 := rw_of (by decide +kernel)
theorem kc_739_96 : Kc 739 96 := kc_of (by decide) (by decide +kernel)
theorem s0_685 : Rw 0 685 686 1 53 0 0 0 := rw_of (by decide +kernel)
theorem s0_686 : Rw 0 686 689 3 60 919 0 0 := rw_of (by decide +kernel)
theorem law5_knots {B : eB} {n i : Int} {d : Nat} {M : Mm} {Q : Nat → eV → Mm → Prop} (hB : SB B n) (h0 : 0 ≤ i) (h1 : i ≤ n - 6) (hI : INV5 M i) (hk : ∀ M2, INV5 M2 (i + 6) → Wp B (d + 80) 0 23 [some (R 4096), some (R 0), some (R 739), some (R 769), some (I (i + 6)), none, none] [] M2 Q) : Wp B (d + 80) 0 676 [some (R 4096), some (R 0), some (R 739), some (R 769), some (I i), none, none] [] M Q := by
  obtain ⟨⟨⟨hP, hT, hW, hQW, hg0, hg9⟩, hA, i9, i2, i5, i11⟩, hR⟩ := hI
  have hB0 := RB_of hP
  obtain ⟨Kf9, hk9, hd9, hc9, hq9⟩ := id hR
  refine wk_al1 s0_676 (wk_cv1 s0_677 kc_0_26 rfl (m26_0 _ M  hP ) (cqI ?_))
  rintro z1 M1 ⟨hP1, hF1, x0, x1⟩
  have hB1 := RB_of hP1
  refine wk_popi s0_680 (wk_al2 s0_681 ?_)
  have hW1 : WS M1 := WS_sm (Sm.fr hF1 rfl) hW
  have hQ1 : QW M1 := QW_sm (Sm.fr hF1 rfl) hQW
  refine wk_cv1 s0_682 kc_739_96 rfl (m96_739 _ M1  hP1 ) (cqI ?_)
  rintro z2 M2 ⟨hP2, hF2, y0, y1⟩
  have hg2 := hF2.at g_below rfl
  have hg1 := hF1.at g_below rfl
  have u_0_1 := hF1.at g_0_1 rfl
  have v_0_1 := hF2.at g_0_1 rfl
  have u_0_9 := hF1.at g_0_9 rfl
  have v_0_9 := hF2.at g_0_9 rfl
  have u_2_1 := hF1.at g_2_1 rfl
  have v_2_1 := hF2.at g_2_1 rfl
  have u_0_5 := hF1.at g_0_5 rfl
  have v_0_5 := hF2.at g_0_5 rfl
  have u_0_11 := hF1.at g_0_11 rfl
  have v_0_11 := hF2.at g_0_11 rfl
  have u_739_27 := hF1.at g_739_27 rfl
  have v_739_27 := hF2.at g_739_27 rfl
  have u_739_13 := hF1.at g_739_13 rfl
  have v_739_13 := hF2.at g_739_13 rfl
  have u_739_1 := hF1.at g_739_1 rfl
  have v_739_1 := hF2.at g_739_1 rfl
  have u_739_29 := hF1.at g_739_29 rfl
  have v_739_29 := hF2.at g_739_29 rfl
  have u_739_21 := hF1.at g_739_21 rfl
  have v_739_21 := hF2.at g_739_21 rfl
  have hb := bf_0_1 hP
  have hA2 : TA (fun k => M2 1 k) (fun k => M2 755 k) (M2 0 1) := TA_mv hA (fun k => (hF2.at (ga_1 k) rfl).trans (hF1.at (ga_1 k) rfl)) (fun k => (hF2.at (ga_755 k) rfl).trans (hF1.at (ga_755 k) rfl)) (by omega)
  have hR2 : RELW M2 := R5_2 hR hB0 hB1 (Sm.fr hF1 rfl) (Sm.fr hF1 rfl) (Sm.fr hF1 rfl) (Sm.fr hF1 rfl) (Sm.fr hF1 rfl) (Sm.fr hF1 rfl) (Sm.fr hF1 rfl) (Sm.fr hF1 rfl) (Sm.fr hF2 rfl) (Sm.fr hF2 rfl) (Sm.fr hF2 rfl) (Sm.fr hF2 rfl) (MSK_sm (Sm.fr hF2 rfl)) (MSD_sm (Sm.fr hF2 rfl)) (MSC_sm (Sm.fr hF2 rfl)) (MSQ_sm (Sm.fr hF2 rfl))
  have hI2 : INV5 M2 (i + 6) := ⟨⟨⟨hP2, by omega, WS_sm (Sm.fr hF2 rfl) hW1, QW_sm (Sm.fr hF2 rfl) hQ1, by omega, by omega⟩, hA2, by omega, by omega, by omega, by omega⟩, hR2⟩
  exact wk_popi s0_685 (wk_goto s0_686 (wk_inc4 s0_919 rfl (wk_goto s0_922 (wp_fg (le_s (le_s (le_s (le_s (le_s (le_s (le_s le_0))))))) (hk M2 hI2)))))
theorem s0_689 : Rw 0 689 690 1 14 1 0 0 := rw_of (by decide +kernel)
theorem s0_690 : Rw 0 690 691 1 14 0 0 0 := rw_of (by decide +kernel)
theorem s0_691 : Rw 0 691 693 2 11 4 0 0 := rw_of (by decide +kernel)
theorem s0_693 : Rw 0 693 694 1 1 (cd 1) 2 0 := rw_of (by decide +kernel)
theorem s0_694 : Rw 0 694 695 1 30 0 0 0 := rw_of (by decide +kernel)
theorem s0_695 : Rw 0 695 696 1 97 0 0 0 := rw_of (by decide +kernel)
theorem s0_696 : Rw 0 696 697 1 14 3 0 0 := rw_of (by decide +kernel)
theorem s0_697 : Rw 0 697 700 3 113 254 3 137 := rw_of (by decide +kernel)
theorem s0_700 : Rw 0 700 702 2 17 5 0 0 := rw_of (by decide +kernel)
theorem s0_702 : Rw 0 702 703 1 14 2 0 0 := rw_of (by decide +kernel)
theorem s0_703 : Rw 0 703 704 1 14 0 0 0 := rw_of (by decide +kernel)
theorem s0_704 : Rw 0 704 706 2 11 4 0 0 := rw_of (by decide +kernel)
theorem s0_706 : Rw 0 706 707 1 1 (cd 1) 2 0 := rw_of (by decide +kernel)
theorem s0_707 : Rw 0 707 708 1 30 0 0 0 := rw_of (by decide +kernel)
theorem s0_708 : Rw 0 708 709 1 97 0 0 0 := rw_of (by decide +kernel)
theorem s0_709 : Rw 0 709 712 3 100 95 2 139 := rw_of (by decide +kernel)
theorem kc_739_95 : Kc 739 95 := kc_of (by decide) (by decide +kernel)
theorem s0_712 : Rw 0 712 714 2 17 6 0 0 := rw_of (by decide +kernel)
theorem s0_714 : Rw 0 714 717 3 60 919 0 0 := rw_of (by decide +kernel)
theorem law5_knot {B : eB} {n i : Int} {d : Nat} {M : Mm} {Q : Nat → eV → Mm → Prop} (hB : SB B n) (h0 : 0 ≤ i) (h1 : i ≤ n - 6) (hI : INV5 M i) (hk : ∀ M2, INV5 M2 (i + 6) → Wp B (d + 80) 0 23 [some (R 4096), some (R 0), some (R 739), some (R 769), some (I (i + 6)), none, none] [] M2 Q) : Wp B (d + 80) 0 689 [some (R 4096), some (R 0), some (R 739), some (R 769), some (I i), none, none] [] M Q := by
  obtain ⟨⟨⟨hP, hT, hW, hQW, hg0, hg9⟩, hA, i9, i2, i5, i11⟩, hR⟩ := hI
  have hB0 := RB_of hP
  obtain ⟨Kf9, hk9, hd9, hc9, hq9⟩ := id hR
  refine wk_al1 s0_689 (wk_al0 s0_690 (wk_il4 s0_691 (wk_c1 s0_693 (wk_iadd s0_694 (wk_saldf hB s0_695 ⟨by omega, by omega⟩ ?_)))))
  intro a1 b1
  refine wk_al3 s0_696 (wk_cs113_3 s0_697 rfl (lw_knot _ M (scf B (i + 1)) hP (by omega) (by omega)) (cqI ?_))
  rintro z1 M1 ⟨hP1, hF1, x0, x1, x2, x3⟩
  have hB1 := RB_of hP1
  refine wk_is5 s0_700 rfl (wk_al2 s0_702 (wk_al0 s0_703 (wk_il4 s0_704 (wk_c1 s0_706 (wk_iadd s0_707 (wk_saldf hB s0_708 ⟨by omega, by omega⟩ ?_))))))
  intro a2 b2
  have hW1 : WS M1 := WS_sm (Sm.fr hF1 rfl) hW
  have hQ1 : QW M1 := QW_sm (Sm.fr hF1 rfl) hQW
  refine wk_cv2 s0_709 kc_739_95 rfl (m95_739 _ M1 (scf B (i + 1)) hP1 (by omega) (by omega)) (cqI ?_)
  rintro z2 M2 ⟨hP2, hF2, y0, y1⟩
  have hg2 := hF2.at g_below rfl
  have hg1 : True := trivial
  have u_0_1 := hF1.at g_0_1 rfl
  have v_0_1 := hF2.at g_0_1 rfl
  have u_0_9 := hF1.at g_0_9 rfl
  have v_0_9 := hF2.at g_0_9 rfl
  have u_2_1 := hF1.at g_2_1 rfl
  have v_2_1 := hF2.at g_2_1 rfl
  have u_0_5 := hF1.at g_0_5 rfl
  have v_0_5 := hF2.at g_0_5 rfl
  have u_0_11 := hF1.at g_0_11 rfl
  have v_0_11 := hF2.at g_0_11 rfl
  have u_739_27 := hF1.at g_739_27 rfl
  have v_739_27 := hF2.at g_739_27 rfl
  have u_739_13 := hF1.at g_739_13 rfl
  have v_739_13 := hF2.at g_739_13 rfl
  have u_739_1 := hF1.at g_739_1 rfl
  have v_739_1 := hF2.at g_739_1 rfl
  have u_739_29 := hF1.at g_739_29 rfl
  have v_739_29 := hF2.at g_739_29 rfl
  have u_739_21 := hF1.at g_739_21 rfl
  have v_739_21 := hF2.at g_739_21 rfl
  have hb := bf_0_1 hP
  have hA2 : TA (fun k => M2 1 k) (fun k => M2 755 k) (M2 0 1) := TA_mv hA (fun k => (hF2.at (ga_1 k) rfl).trans (hF1.at (ga_1 k) rfl)) (fun k => (hF2.at (ga_755 k) rfl).trans (hF1.at (ga_755 k) rfl)) (by omega)
  have hR2 : RELW M2 := R5_2 hR hB0 hB1 (Sm.fr hF1 rfl) (Sm.fr hF1 rfl) (Sm.fr hF1 rfl) (Sm.fr hF1 rfl) (Sm.fr hF1 rfl) (Sm.fr hF1 rfl) (Sm.fr hF1 rfl) (Sm.fr hF1 rfl) (Sm.fr hF2 rfl) (Sm.fr hF2 rfl) (Sm.fr hF2 rfl) (Sm.fr hF2 rfl) (MSK_sm (Sm.fr hF2 rfl)) (MSD_sm (Sm.fr hF2 rfl)) (MSC_sm (Sm.fr hF2 rfl)) (MSQ_sm (Sm.fr hF2 rfl))
  have hI2 : INV5 M2 (i + 6) := ⟨⟨⟨hP2, by omega, WS_sm (Sm.fr hF2 rfl) hW1, QW_sm (Sm.fr hF2 rfl) hQ1, by omega, by omega⟩, hA2, by omega, by omega, by omega, by omega⟩, hR2⟩
  exact wk_is6 s0_712 rfl (wk_goto s0_714 (wk_inc4 s0_919 rfl (wk_goto s0_922 (wp_fg (le_s (le_s (le_s (le_s (le_s (le_n (le_n le_0))))))) (hk M2 hI2)))))
theorem s0_717 : Rw 0 717 718 1 14 1 0 0 := rw_of (by decide +kernel)
theorem s0_718 : Rw 0 718 719 1 14 0 0 0 := rw_of (by decide +kernel)
theorem s0_719 : Rw 0 719 721 2 11 4 0 0 := rw_of (by decide +kernel)
theorem s0_721 : Rw 0 721 722 1 1 (cd 1) 2 0 := rw_of (by decide +kernel)
theorem s0_722 : Rw 0 722 723 1 30 0 0 0 := rw_of (by decide +kernel)
theorem s0_723 : Rw 0 723 724 1 97 0 0 0 := rw_of (by decide +kernel)
theorem s0_724 : Rw 0 724 725 1 14 0 0 0 := rw_of (by decide +kernel)
theorem s0_725 : Rw 0 725 727 2 11 4 0 0 := rw_of (by decide +kernel)
theorem s0_727 : Rw 0 727 728 1 1 (cd 2) 3 0 := rw_of (by decide +kernel)
theorem s0_728 : Rw 0 728 729 1 30 0 0 0 := rw_of (by decide +kernel)
theorem s0_729 : Rw 0 729 730 1 97 0 0 0 := rw_of (by decide +kernel)
theorem s0_730 : Rw 0 730 731 1 14 3 0 0 := rw_of (by decide +kernel)
theorem s0_731 : Rw 0 731 734 3 113 257 4 140 := rw_of (by decide +kernel)
theorem s0_734 : Rw 0 734 736 2 17 5 0 0 := rw_of (by decide +kernel)
theorem s0_736 : Rw 0 736 737 1 14 2 0 0 := rw_of (by decide +kernel)
theorem s0_737 : Rw 0 737 738 1 14 0 0 0 := rw_of (by decide +kernel)
theorem s0_738 : Rw 0 738 740 2 11 4 0 0 := rw_of (by decide +kernel)
theorem s0_740 : Rw 0 740 741 1 1 (cd 1) 2 0 := rw_of (by decide +kernel)
theorem s0_741 : Rw 0 741 742 1 30 0 0 0 := rw_of (by decide +kernel)
theorem s0_742 : Rw 0 742 743 1 97 0 0 0 := rw_of (by decide +kernel)
theorem s0_743 : Rw 0 743 744 1 14 0 0 0 := rw_of (by decide +kernel)
theorem s0_744 : Rw 0 744 746 2 11 4 0 0 := rw_of (by decide +kernel)
theorem s0_746 : Rw 0 746 747 1 1 (cd 2) 3 0 := rw_of (by decide +kernel)
theorem s0_747 : Rw 0 747 748 1 30 0 0 0 := rw_of (by decide +kernel)
theorem s0_748 : Rw 0 748 749 1 97 0 0 0 := rw_of (by decide +kernel)
theorem s0_749 : Rw 0 749 752 3 100 118 3 142 := rw_of (by decide +kernel)
theorem kc_739_118 : Kc 739 118 := kc_of (by decide) (by decide +kernel)
theorem s0_752 : Rw 0 752 754 2 17 6 0 0 := rw_of (by decide +kernel)
theorem s0_754 : Rw 0 754 757 3 60 919 0 0 := rw_of (by decide +kernel)
theorem law5_question {B : eB} {n i : Int} {d : Nat} {M : Mm} {Q : Nat → eV → Mm → Prop} (hB : SB B n) (h0 : 0 ≤ i) (h1 : i ≤ n - 6) (hI : INV5 M i) (hk : ∀ M2, INV5 M2 (i + 6) → Wp B (d + 80) 0 23 [some (R 4096), some (R 0), some (R 739), some (R 769), some (I (i + 6)), none, none] [] M2 Q) : Wp B (d + 80) 0 717 [some (R 4096), some (R 0), some (R 739), some (R 769), some (I i), none, none] [] M Q := by
  obtain ⟨⟨⟨hP, hT, hW, hQW, hg0, hg9⟩, hA, i9, i2, i5, i11⟩, hR⟩ := hI
  have hB0 := RB_of hP
  obtain ⟨Kf9, hk9, hd9, hc9, hq9⟩ := id hR
  refine wk_al1 s0_717 (wk_al0 s0_718 (wk_il4 s0_719 (wk_c1 s0_721 (wk_iadd s0_722 (wk_saldf hB s0_723 ⟨by omega, by omega⟩ ?_)))))
  intro a1 b1
  refine wk_al0 s0_724 (wk_il4 s0_725 (wk_c1 s0_727 (wk_iadd s0_728 (wk_saldf hB s0_729 ⟨by omega, by omega⟩ ?_))))
  intro a2 b2
  refine wk_al3 s0_730 (wk_cs113_4 s0_731 rfl (lw5_question _ M (scf B (i + 1)) (scf B (i + 2)) (M 2 1) (M 0 9) (M 0 11) hP (by omega) (by omega) (by omega) (by omega) rfl (by have := bf_2_1 hP; have := bf_739_1 hP; omega) (bf_2_1 hP).2 rfl (bf_0_9 hP).1 (bf_0_9 hP).2 rfl (bf_0_11 hP).1 (bf_0_11 hP).2) (cqI ?_))
  rintro z1 M1 ⟨hP1, hF1, x0, x1, x2, x3, x4⟩
  have hB1 := RB_of hP1
  refine wk_is5 s0_734 rfl (wk_al2 s0_736 (wk_al0 s0_737 (wk_il4 s0_738 (wk_c1 s0_740 (wk_iadd s0_741 (wk_saldf hB s0_742 ⟨by omega, by omega⟩ ?_))))))
  intro a3 b3
  refine wk_al0 s0_743 (wk_il4 s0_744 (wk_c1 s0_746 (wk_iadd s0_747 (wk_saldf hB s0_748 ⟨by omega, by omega⟩ ?_))))
  intro a4 b4
  have hz769 : ∀ (v : Int) (Mp : Mm), M1 = mUp Mp 769 0 v → M1 769 0 = v := fun v Mp e => mUp_at e
  obtain ⟨zc, hzl, hzu, hzo, hS, hC⟩ : ∃ zc : Int, (-1) ≤ zc ∧ zc ≤ 9 ∧ (z1 = 0 → M1 769 0 = ((zc % 18446744073709551616).toNat : Int)) ∧ QNR (scf B (i + 1)) (scf B (i + 2)) (M 2 1) (M 0 9) (M 0 11) z1 zc (M1 0 11) ∧ ((z1 = 1 ∧ ∀ a i : Int, 0 ≤ a → M1 a i = M a i) ∨ (z1 = 0 ∧ ∃ (v : Int) (Mp : Mm), M1 = mUp Mp 769 0 v ∧ RB5 Mp ∧ (zc = -1 → ∀ a i : Int, Mp a i = M a i) ∧ (0 ≤ zc → (∀ k : Int, Mp 169 k = if k = M 0 11 then 30 * (scf B (i + 1)) + (scf B (i + 2)) else M 169 k) ∧ ∀ a i : Int, a ≠ 169 → (a ≠ 0 ∨ i ≠ 11) → Mp a i = M a i))) := by
    rcases x4 with ⟨hk1, t0, t1⟩ | ⟨hk1, z, Mp, f0, f1, f2, f3, f4, f5, f6⟩
    · exact ⟨0, by decide, by decide, fun q => by omega, Or.inl ⟨by omega, hk1, t1 0 11 (by decide)⟩, Or.inl ⟨hk1, t1⟩⟩
    · exact ⟨z, f3, f4, fun _ => hz769 _ _ f0, by rw [hk1, show M1 0 11 = Mp 0 11 by rw [f0, mUp_ne (Or.inl (by decide))]]; exact f5, Or.inr ⟨hk1, _, Mp, f0, RB_of f1, f6⟩⟩
  have hW1 : WS M1 := WS_sm (Sm.fr hF1 rfl) hW
  have hQ1 : QW M1 := QW_sm (Sm.fr hF1 rfl) hQW
  refine wk_cv3 s0_749 kc_739_118 rfl (n8118_739 _ M1 (scf B (i + 1)) (scf B (i + 2)) (M1 739 13) (M1 739 21) (M1 739 1) hP1 (by omega) (by omega) (by omega) (by omega) rfl (bf_739_13 hP1).1 (bf_739_13 hP1).2 rfl (bf_739_21 hP1).1 (bf_739_21 hP1).2 rfl (bf_739_1 hP1).1 (bf_739_1 hP1).2 hW1 hQ1) (cqI ?_)
  rintro z2 M2 ⟨hP2, hF2, y0, y1, y2, y3, y4, y5⟩
  have hg2 := hF2.at g_below rfl
  have hg1 : True := trivial
  have u_0_1 := hF1.at g_0_1 rfl
  have v_0_1 := hF2.at g_0_1 rfl
  have u_0_9 := hF1.at g_0_9 rfl
  have v_0_9 := hF2.at g_0_9 rfl
  have u_2_1 := hF1.at g_2_1 rfl
  have v_2_1 := hF2.at g_2_1 rfl
  have u_0_5 := hF1.at g_0_5 rfl
  have v_0_5 := hF2.at g_0_5 rfl
  have v_0_11 := hF2.at g_0_11 rfl
  have u_739_27 := hF1.at g_739_27 rfl
  have v_739_27 := hF2.at g_739_27 rfl
  have u_739_13 := hF1.at g_739_13 rfl
  have v_739_13 := hF2.at g_739_13 rfl
  have u_739_1 := hF1.at g_739_1 rfl
  have v_739_1 := hF2.at g_739_1 rfl
  have u_739_29 := hF1.at g_739_29 rfl
  have v_739_29 := hF2.at g_739_29 rfl
  have u_739_21 := hF1.at g_739_21 rfl
  have hb := bf_0_1 hP
  have w_0 : M1 739 1 = M 2 1 := by omega
  have w_1 : M1 739 13 = M 0 9 := by omega
  have w_2 : M1 739 21 = M 0 11 := by omega
  have hS2 := y2
  rw [w_0, w_1, w_2] at hS2
  have hO := QNR_one hS hS2
  obtain ⟨o0, o1, oz⟩ := hO
  have hA2 : TA (fun k => M2 1 k) (fun k => M2 755 k) (M2 0 1) := TA_mv hA (fun k => (hF2.at (ga_1 k) rfl).trans (hF1.at (ga_1 k) rfl)) (fun k => (hF2.at (ga_755 k) rfl).trans (hF1.at (ga_755 k) rfl)) (by omega)
  have hR2 : RELW M2 := by
    obtain ⟨n1, n2⟩ := y3
    have b739 := bf_739_1 hP
    have b21 := bf_739_21 hP
    have b13 := bf_739_13 hP
    by_cases q9 : M2 739 0 = 0 ∧ 0 ≤ z2
    · obtain ⟨y1, y2⟩ := n2 q9.1 q9.2
      have ez := oz (by omega)
      rcases hC with ⟨q0, -⟩ | ⟨q0, v, Mp, e, hBp, -, c2⟩
      · omega
      · obtain ⟨x1, x2⟩ := c2 (by omega)
        rcases hS2 with ⟨s1, s2, s3⟩ | ⟨s1, s2, s3, s4, s5, s6⟩
        · omega
        · exact R5_q1 hR hB0 hBp hB1 i11 ⟨s1, by omega, s3, by omega⟩ e x1 x2 y1 y2 (by omega) (Sm.fr hF2 rfl) (Sm.fr hF2 rfl) (Sm.fr hF2 rfl) (Sm.fr hF2 rfl) (Sm.fr hF2 rfl) (Sm.fr hF2 rfl) (Sm.fr hF2 rfl) (hF2.at g_739_24 rfl) (hF2.at g_739_25 rfl) (hF2.at g_739_7 rfl)
    · refine R5_q0 hR hB0 hB1 ?_ (n1 ?_) ?_ (Sm.fr hF2 rfl) (Sm.fr hF2 rfl) (Sm.fr hF2 rfl) (Sm.fr hF2 rfl) (Sm.fr hF2 rfl) (Sm.fr hF2 rfl) (Sm.fr hF2 rfl) (hF2.at g_739_24 rfl) (hF2.at g_739_25 rfl) (hF2.at g_739_7 rfl)
      · rcases hC with ⟨-, q0⟩ | ⟨q0, v, Mp, e, hBp, c1, -⟩
        · exact Or.inl q0
        · refine Or.inr ⟨v, Mp, e, hBp, c1 ?_⟩
          have ez := oz (by omega)
          omega
      · rcases hS2 with ⟨s1, s2, s3⟩ | ⟨s1, s2, s3, s4, s5, s6⟩ <;> omega
      · rcases hS2 with ⟨s1, s2, s3⟩ | ⟨s1, s2, s3, s4, s5, s6⟩ <;> omega
  have hI2 : INV5 M2 (i + 6) := ⟨⟨⟨hP2, by omega, y4, y5, by omega, by omega⟩, hA2, by omega, by omega, by omega, by omega⟩, hR2⟩
  exact wk_is6 s0_752 rfl (wk_goto s0_754 (wk_inc4 s0_919 rfl (wk_goto s0_922 (wp_fg (le_s (le_s (le_s (le_s (le_s (le_n (le_n le_0))))))) (hk M2 hI2)))))
theorem s0_757 : Rw 0 757 758 1 14 1 0 0 := rw_of (by decide +kernel)
theorem s0_758 : Rw 0 758 759 1 14 0 0 0 := rw_of (by decide +kernel)
theorem s0_759 : Rw 0 759 761 2 11 4 0 0 := rw_of (by decide +kernel)
theorem s0_761 : Rw 0 761 762 1 1 (cd 1) 2 0 := rw_of (by decide +kernel)
theorem s0_762 : Rw 0 762 763 1 30 0 0 0 := rw_of (by decide +kernel)
theorem s0_763 : Rw 0 763 764 1 97 0 0 0 := rw_of (by decide +kernel)
theorem s0_764 : Rw 0 764 765 1 14 3 0 0 := rw_of (by decide +kernel)
theorem s0_765 : Rw 0 765 768 3 113 252 3 143 := rw_of (by decide +kernel)
theorem s0_768 : Rw 0 768 770 2 17 5 0 0 := rw_of (by decide +kernel)
theorem s0_770 : Rw 0 770 771 1 14 2 0 0 := rw_of (by decide +kernel)
theorem s0_771 : Rw 0 771 772 1 14 0 0 0 := rw_of (by decide +kernel)
theorem s0_772 : Rw 0 772 774 2 11 4 0 0 := rw_of (by decide +kernel)
theorem s0_774 : Rw 0 774 775 1 1 (cd 1) 2 0 := rw_of (by decide +kernel)
theorem s0_775 : Rw 0 775 776 1 30 0 0 0 := rw_of (by decide +kernel)
theorem s0_776 : Rw 0 776 777 1 97 0 0 0 := rw_of (by decide +kernel)
theorem s0_777 : Rw 0 777 780 3 100 71 2 145 := rw_of (by decide +kernel)
theorem kc_739_71 : Kc 739 71 := kc_of (by decide) (by decide +kernel)
theorem s0_780 : Rw 0 780 782 2 17 6 0 0 := rw_of (by decide +kernel)
theorem s0_782 : Rw 0 782 785 3 60 919 0 0 := rw_of (by decide +kernel)
theorem law5_fewest {B : eB} {n i : Int} {d : Nat} {M : Mm} {Q : Nat → eV → Mm → Prop} (hB : SB B n) (h0 : 0 ≤ i) (h1 : i ≤ n - 6) (hI : INV5 M i) (hk : ∀ M2, INV5 M2 (i + 6) → Wp B (d + 80) 0 23 [some (R 4096), some (R 0), some (R 739), some (R 769), some (I (i + 6)), none, none] [] M2 Q) : Wp B (d + 80) 0 757 [some (R 4096), some (R 0), some (R 739), some (R 769), some (I i), none, none] [] M Q := by
  obtain ⟨⟨⟨hP, hT, hW, hQW, hg0, hg9⟩, hA, i9, i2, i5, i11⟩, hR⟩ := hI
  have hB0 := RB_of hP
  obtain ⟨Kf9, hk9, hd9, hc9, hq9⟩ := id hR
  refine wk_al1 s0_757 (wk_al0 s0_758 (wk_il4 s0_759 (wk_c1 s0_761 (wk_iadd s0_762 (wk_saldf hB s0_763 ⟨by omega, by omega⟩ ?_)))))
  intro a1 b1
  refine wk_al3 s0_764 (wk_cs113_3 s0_765 rfl (lw_fewest _ M (scf B (i + 1)) hP (by omega) (by omega)) (cqI ?_))
  rintro z1 M1 ⟨hP1, hF1, x0, x1, x2, x3⟩
  have hB1 := RB_of hP1
  refine wk_is5 s0_768 rfl (wk_al2 s0_770 (wk_al0 s0_771 (wk_il4 s0_772 (wk_c1 s0_774 (wk_iadd s0_775 (wk_saldf hB s0_776 ⟨by omega, by omega⟩ ?_))))))
  intro a2 b2
  have hW1 : WS M1 := WS_sm (Sm.fr hF1 rfl) hW
  have hQ1 : QW M1 := QW_sm (Sm.fr hF1 rfl) hQW
  refine wk_cv2 s0_777 kc_739_71 rfl (n9071_739 _ M1 (scf B (i + 1)) (M1 739 13) (M1 739 21) (M1 739 7) hP1 (by omega) (by omega) rfl (bf_739_13 hP1).1 (bf_739_13 hP1).2 rfl (bf_739_21 hP1).1 (bf_739_21 hP1).2 rfl (bf_739_7 hP1).1 (bf_739_7 hP1).2 hW1 hQ1) (cqI ?_)
  rintro z2 M2 ⟨hP2, hF2, y0, y1, y2, y3, y4⟩
  have hg2 := hF2.at g_below rfl
  have hg1 : True := trivial
  have u_0_1 := hF1.at g_0_1 rfl
  have v_0_1 := hF2.at g_0_1 rfl
  have u_0_9 := hF1.at g_0_9 rfl
  have v_0_9 := hF2.at g_0_9 rfl
  have u_2_1 := hF1.at g_2_1 rfl
  have v_2_1 := hF2.at g_2_1 rfl
  have u_0_5 := hF1.at g_0_5 rfl
  have v_0_5 := hF2.at g_0_5 rfl
  have u_0_11 := hF1.at g_0_11 rfl
  have v_0_11 := hF2.at g_0_11 rfl
  have u_739_27 := hF1.at g_739_27 rfl
  have v_739_27 := hF2.at g_739_27 rfl
  have u_739_13 := hF1.at g_739_13 rfl
  have v_739_13 := hF2.at g_739_13 rfl
  have u_739_1 := hF1.at g_739_1 rfl
  have v_739_1 := hF2.at g_739_1 rfl
  have u_739_29 := hF1.at g_739_29 rfl
  have v_739_29 := hF2.at g_739_29 rfl
  have u_739_21 := hF1.at g_739_21 rfl
  have v_739_21 := hF2.at g_739_21 rfl
  have hb := bf_0_1 hP
  have hA2 : TA (fun k => M2 1 k) (fun k => M2 755 k) (M2 0 1) := TA_mv hA (fun k => (hF2.at (ga_1 k) rfl).trans (hF1.at (ga_1 k) rfl)) (fun k => (hF2.at (ga_755 k) rfl).trans (hF1.at (ga_755 k) rfl)) (by omega)
  have hR2 : RELW M2 := R5_2 hR hB0 hB1 (Sm.fr hF1 rfl) (Sm.fr hF1 rfl) (Sm.fr hF1 rfl) (Sm.fr hF1 rfl) (Sm.fr hF1 rfl) (Sm.fr hF1 rfl) (Sm.fr hF1 rfl) (Sm.fr hF1 rfl) (Sm.fr hF2 rfl) (Sm.fr hF2 rfl) (Sm.fr hF2 rfl) (Sm.fr hF2 rfl) (MSK_8 (Sm.fr hF2 rfl) (fun k hk2 => y4.2 k (by have := (bf_739_15 hP1).1; omega))) ⟨hF2.at g_739_15 rfl, hF2.at g_739_7 rfl, fun k _ hk2 => y4.2 k hk2, fun w _ _ => ⟨hF2.at (gr_751 (by decide) (by decide) w) rfl, hF2.at (gr_752 (by decide) (by decide) w) rfl⟩⟩ (MSC_sm (Sm.fr hF2 rfl)) (MSQ_sm (Sm.fr hF2 rfl))
  have hI2 : INV5 M2 (i + 6) := ⟨⟨⟨hP2, by omega, y2, y3, by omega, by omega⟩, hA2, by omega, by omega, by omega, by omega⟩, hR2⟩
  exact wk_is6 s0_780 rfl (wk_goto s0_782 (wk_inc4 s0_919 rfl (wk_goto s0_922 (wp_fg (le_s (le_s (le_s (le_s (le_s (le_n (le_n le_0))))))) (hk M2 hI2)))))
theorem s0_785 : Rw 0 785 786 1 14 1 0 0 := rw_of (by decide +kernel)
theorem s0_786 : Rw 0 786 789 3 100 20 1 146 := rw_of (by decide +kernel)
theorem kc_0_20 : Kc 0 20 := kc_of (by decide) (by decide +kernel)
theorem s0_789 : Rw 0 789 790 1 53 0 0 0 := rw_of (by decide +kernel)
theorem s0_790 : Rw 0 790 791 1 14 2 0 0 := rw_of (by decide +kernel)
theorem s0_791 : Rw 0 791 794 3 100 72 1 149 := rw_of (by decide +kernel)
theorem kc_739_72 : Kc 739 72 := kc_of (by decide) (by decide +kernel)
theorem s0_794 : Rw 0 794 795 1 53 0 0 0 := rw_of (by decide +kernel)
theorem s0_795 : Rw 0 795 798 3 60 919 0 0 := rw_of (by decide +kernel)
theorem law5_first {B : eB} {n i : Int} {d : Nat} {M : Mm} {Q : Nat → eV → Mm → Prop} (hB : SB B n) (h0 : 0 ≤ i) (h1 : i ≤ n - 6) (hI : INV5 M i) (hk : ∀ M2, INV5 M2 (i + 6) → Wp B (d + 80) 0 23 [some (R 4096), some (R 0), some (R 739), some (R 769), some (I (i + 6)), none, none] [] M2 Q) : Wp B (d + 80) 0 785 [some (R 4096), some (R 0), some (R 739), some (R 769), some (I i), none, none] [] M Q := by
  obtain ⟨⟨⟨hP, hT, hW, hQW, hg0, hg9⟩, hA, i9, i2, i5, i11⟩, hR⟩ := hI
  have hB0 := RB_of hP
  obtain ⟨Kf9, hk9, hd9, hc9, hq9⟩ := id hR
  refine wk_al1 s0_785 (wk_cv1 s0_786 kc_0_20 rfl (m20_0 _ M  hP ) (cqI ?_))
  rintro z1 M1 ⟨hP1, hF1, x0, x1⟩
  have hB1 := RB_of hP1
  refine wk_popi s0_789 (wk_al2 s0_790 ?_)
  have hW1 : WS M1 := WS_sm (Sm.fr hF1 rfl) hW
  have hQ1 : QW M1 := QW_sm (Sm.fr hF1 rfl) hQW
  refine wk_cv1 s0_791 kc_739_72 rfl (m72_739 _ M1  hP1 ) (cqI ?_)
  rintro z2 M2 ⟨hP2, hF2, y0, y1⟩
  have hg2 := hF2.at g_below rfl
  have hg1 := hF1.at g_below rfl
  have u_0_1 := hF1.at g_0_1 rfl
  have v_0_1 := hF2.at g_0_1 rfl
  have u_0_9 := hF1.at g_0_9 rfl
  have v_0_9 := hF2.at g_0_9 rfl
  have u_2_1 := hF1.at g_2_1 rfl
  have v_2_1 := hF2.at g_2_1 rfl
  have u_0_5 := hF1.at g_0_5 rfl
  have v_0_5 := hF2.at g_0_5 rfl
  have u_0_11 := hF1.at g_0_11 rfl
  have v_0_11 := hF2.at g_0_11 rfl
  have u_739_27 := hF1.at g_739_27 rfl
  have v_739_27 := hF2.at g_739_27 rfl
  have u_739_13 := hF1.at g_739_13 rfl
  have v_739_13 := hF2.at g_739_13 rfl
  have u_739_1 := hF1.at g_739_1 rfl
  have v_739_1 := hF2.at g_739_1 rfl
  have u_739_29 := hF1.at g_739_29 rfl
  have v_739_29 := hF2.at g_739_29 rfl
  have u_739_21 := hF1.at g_739_21 rfl
  have v_739_21 := hF2.at g_739_21 rfl
  have hb := bf_0_1 hP
  have hA2 : TA (fun k => M2 1 k) (fun k => M2 755 k) (M2 0 1) := TA_mv hA (fun k => (hF2.at (ga_1 k) rfl).trans (hF1.at (ga_1 k) rfl)) (fun k => (hF2.at (ga_755 k) rfl).trans (hF1.at (ga_755 k) rfl)) (by omega)
  have hR2 : RELW M2 := R5_2 hR hB0 hB1 (Sm.fr hF1 rfl) (Sm.fr hF1 rfl) (Sm.fr hF1 rfl) (Sm.fr hF1 rfl) (Sm.fr hF1 rfl) (Sm.fr hF1 rfl) (Sm.fr hF1 rfl) (Sm.fr hF1 rfl) (Sm.fr hF2 rfl) (Sm.fr hF2 rfl) (Sm.fr hF2 rfl) (Sm.fr hF2 rfl) (MSK_sm (Sm.fr hF2 rfl)) (MSD_sm (Sm.fr hF2 rfl)) (MSC_sm (Sm.fr hF2 rfl)) (MSQ_sm (Sm.fr hF2 rfl))
  have hI2 : INV5 M2 (i + 6) := ⟨⟨⟨hP2, by omega, WS_sm (Sm.fr hF2 rfl) hW1, QW_sm (Sm.fr hF2 rfl) hQ1, by omega, by omega⟩, hA2, by omega, by omega, by omega, by omega⟩, hR2⟩
  exact wk_popi s0_794 (wk_goto s0_795 (wk_inc4 s0_919 rfl (wk_goto s0_922 (wp_fg (le_s (le_s (le_s (le_s (le_s (le_s (le_s le_0))))))) (hk M2 hI2)))))
theorem s0_798 : Rw 0 798 799 1 14 1 0 0 := rw_of (by decide +kernel)
theorem s0_799 : Rw 0 799 800 1 14 0 0 0 := rw_of (by decide +kernel)
theorem s0_800 : Rw 0 800 802 2 11 4 0 0 := rw_of (by decide +kernel)
theorem s0_802 : Rw 0 802 803 1 1 (cd 1) 2 0 := rw_of (by decide +kernel)
theorem s0_803 : Rw 0 803 804 1 30 0 0 0 := rw_of (by decide +kernel)
theorem s0_804 : Rw 0 804 805 1 97 0 0 0 := rw_of (by decide +kernel)
theorem s0_805 : Rw 0 805 806 1 14 0 0 0 := rw_of (by decide +kernel)
theorem s0_806 : Rw 0 806 808 2 11 4 0 0 := rw_of (by decide +kernel)
theorem s0_808 : Rw 0 808 809 1 1 (cd 2) 3 0 := rw_of (by decide +kernel)
theorem s0_809 : Rw 0 809 810 1 30 0 0 0 := rw_of (by decide +kernel)
theorem s0_810 : Rw 0 810 811 1 97 0 0 0 := rw_of (by decide +kernel)
theorem s0_811 : Rw 0 811 814 3 100 22 3 150 := rw_of (by decide +kernel)
theorem kc_0_22 : Kc 0 22 := kc_of (by decide) (by decide +kernel)
theorem s0_814 : Rw 0 814 815 1 14 2 0 0 := rw_of (by decide +kernel)
theorem s0_815 : Rw 0 815 816 1 14 0 0 0 := rw_of (by decide +kernel)
theorem s0_816 : Rw 0 816 818 2 11 4 0 0 := rw_of (by decide +kernel)
theorem s0_818 : Rw 0 818 819 1 1 (cd 1) 2 0 := rw_of (by decide +kernel)
theorem s0_819 : Rw 0 819 820 1 30 0 0 0 := rw_of (by decide +kernel)
theorem s0_820 : Rw 0 820 821 1 97 0 0 0 := rw_of (by decide +kernel)
theorem s0_821 : Rw 0 821 822 1 14 0 0 0 := rw_of (by decide +kernel)
theorem s0_822 : Rw 0 822 824 2 11 4 0 0 := rw_of (by decide +kernel)
theorem s0_824 : Rw 0 824 825 1 1 (cd 2) 3 0 := rw_of (by decide +kernel)
theorem s0_825 : Rw 0 825 826 1 30 0 0 0 := rw_of (by decide +kernel)
theorem s0_826 : Rw 0 826 827 1 97 0 0 0 := rw_of (by decide +kernel)
theorem s0_827 : Rw 0 827 830 3 100 78 3 154 := rw_of (by decide +kernel)
theorem kc_739_78 : Kc 739 78 := kc_of (by decide) (by decide +kernel)
theorem s0_830 : Rw 0 830 833 3 67 919 0 0 := rw_of (by decide +kernel)
theorem law5_hide {B : eB} {n i : Int} {d : Nat} {M : Mm} {Q : Nat → eV → Mm → Prop} (hB : SB B n) (h0 : 0 ≤ i) (h1 : i ≤ n - 6) (hI : INV5 M i) (hk : ∀ M2, INV5 M2 (i + 6) → Wp B (d + 80) 0 23 [some (R 4096), some (R 0), some (R 739), some (R 769), some (I (i + 6)), none, none] [] M2 Q) : Wp B (d + 80) 0 798 [some (R 4096), some (R 0), some (R 739), some (R 769), some (I i), none, none] [] M Q := by
  obtain ⟨⟨⟨hP, hT, hW, hQW, hg0, hg9⟩, hA, i9, i2, i5, i11⟩, hR⟩ := hI
  have hB0 := RB_of hP
  obtain ⟨Kf9, hk9, hd9, hc9, hq9⟩ := id hR
  refine wk_al1 s0_798 (wk_al0 s0_799 (wk_il4 s0_800 (wk_c1 s0_802 (wk_iadd s0_803 (wk_saldf hB s0_804 ⟨by omega, by omega⟩ ?_)))))
  intro a1 b1
  refine wk_al0 s0_805 (wk_il4 s0_806 (wk_c1 s0_808 (wk_iadd s0_809 (wk_saldf hB s0_810 ⟨by omega, by omega⟩ ?_))))
  intro a2 b2
  refine wk_cv3 s0_811 kc_0_22 rfl (n7022_0 _ M (scf B (i + 1)) (scf B (i + 2)) (M 138 5) (M 10 9) hP (by omega) (by omega) (by omega) (by omega) rfl (bf_138_5 hP).1 (bf_138_5 hP).2 rfl (bf_10_9 hP).1 (bf_10_9 hP).2) (cqI ?_)
  rintro z1 M1 ⟨hP1, hF1, x0, x1, x2⟩
  have hB1 := RB_of hP1
  refine wk_al2 s0_814 (wk_al0 s0_815 (wk_il4 s0_816 (wk_c1 s0_818 (wk_iadd s0_819 (wk_saldf hB s0_820 ⟨by omega, by omega⟩ ?_)))))
  intro a3 b3
  refine wk_al0 s0_821 (wk_il4 s0_822 (wk_c1 s0_824 (wk_iadd s0_825 (wk_saldf hB s0_826 ⟨by omega, by omega⟩ ?_))))
  intro a4 b4
  have hW1 : WS M1 := WS_sm (Sm.fr hF1 rfl) hW
  have hQ1 : QW M1 := QW_sm (Sm.fr hF1 rfl) hQW
  refine wk_cv3 s0_827 kc_739_78 rfl (n8078_739 _ M1 (scf B (i + 1)) (scf B (i + 2)) (M1 739 7) (M1 739 24) (M1 739 25) hP1 (by omega) (by omega) (by omega) (by omega) rfl (bf_739_7 hP1).1 (bf_739_7 hP1).2 rfl (bf_739_24 hP1).1 (bf_739_24 hP1).2 rfl (bf_739_25 hP1).1 (bf_739_25 hP1).2) (cqI ?_)
  rintro z2 M2 ⟨hP2, hF2, y0, y1, y2⟩
  have hg2 := hF2.at g_below rfl
  have hg1 := hF1.at g_below rfl
  have u_0_1 := hF1.at g_0_1 rfl
  have v_0_1 := hF2.at g_0_1 rfl
  have u_0_9 := hF1.at g_0_9 rfl
  have v_0_9 := hF2.at g_0_9 rfl
  have u_2_1 := hF1.at g_2_1 rfl
  have v_2_1 := hF2.at g_2_1 rfl
  have u_0_5 := hF1.at g_0_5 rfl
  have v_0_5 := hF2.at g_0_5 rfl
  have u_0_11 := hF1.at g_0_11 rfl
  have v_0_11 := hF2.at g_0_11 rfl
  have u_739_27 := hF1.at g_739_27 rfl
  have v_739_27 := hF2.at g_739_27 rfl
  have u_739_13 := hF1.at g_739_13 rfl
  have v_739_13 := hF2.at g_739_13 rfl
  have u_739_1 := hF1.at g_739_1 rfl
  have v_739_1 := hF2.at g_739_1 rfl
  have u_739_29 := hF1.at g_739_29 rfl
  have v_739_29 := hF2.at g_739_29 rfl
  have u_739_21 := hF1.at g_739_21 rfl
  have v_739_21 := hF2.at g_739_21 rfl
  have hb := bf_0_1 hP
  have hA2 : TA (fun k => M2 1 k) (fun k => M2 755 k) (M2 0 1) := TA_mv hA (fun k => (hF2.at (ga_1 k) rfl).trans (hF1.at (ga_1 k) rfl)) (fun k => (hF2.at (ga_755 k) rfl).trans (hF1.at (ga_755 k) rfl)) (by omega)
  have hRR := R5_hide (z1 := z1) (z2 := z2) (sd := (scf B (i + 2))) hR hB0 hB1 x2 y2 (Sm.fr hF1 rfl) (Sm.fr hF1 rfl) (Sm.fr hF1 rfl) (Sm.fr hF1 rfl) (Sm.fr hF1 rfl) (Sm.fr hF1 rfl) (Sm.fr hF2 rfl) (Sm.fr hF2 rfl) (Sm.fr hF2 rfl) (Sm.fr hF2 rfl) (Sm.fr hF2 rfl) (Sm.fr hF2 rfl) (Sm.fr hF2 rfl) (hF2.at g_739_13 rfl) (hF2.at g_739_21 rfl) (hF2.at g_739_7 rfl) (fun k => hF2.at (gr_753 (by decide) (by decide) k) rfl) (fun k => hF2.at (gr_754 (by decide) (by decide) k) rfl)
  have hR2 := hRR.1
  have hI2 : INV5 M2 (i + 6) := ⟨⟨⟨hP2, by omega, WS_sm (Sm.fr hF2 rfl) hW1, QW_sm (Sm.fr hF2 rfl) hQ1, by omega, by omega⟩, hA2, by omega, by omega, by omega, by omega⟩, hR2⟩
  refine wk_iceq s0_830 ⟨by omega, by omega⟩ ⟨by omega, by omega⟩ ?_ ?_
  · intro _
    exact wk_inc4 s0_919 rfl (wk_goto s0_922 (wp_fg (le_s (le_s (le_s (le_s (le_s (le_s (le_s le_0))))))) (hk M2 hI2)))
  · intro h
    exfalso
    have := hRR.2
    omega
theorem s0_835 : Rw 0 835 836 1 14 1 0 0 := rw_of (by decide +kernel)
theorem s0_836 : Rw 0 836 837 1 14 0 0 0 := rw_of (by decide +kernel)
theorem s0_837 : Rw 0 837 839 2 11 4 0 0 := rw_of (by decide +kernel)
theorem s0_839 : Rw 0 839 840 1 1 (cd 1) 2 0 := rw_of (by decide +kernel)
theorem s0_840 : Rw 0 840 841 1 30 0 0 0 := rw_of (by decide +kernel)
theorem s0_841 : Rw 0 841 842 1 97 0 0 0 := rw_of (by decide +kernel)
theorem s0_842 : Rw 0 842 843 1 14 3 0 0 := rw_of (by decide +kernel)
theorem s0_843 : Rw 0 843 846 3 113 258 3 155 := rw_of (by decide +kernel)
theorem s0_846 : Rw 0 846 848 2 17 5 0 0 := rw_of (by decide +kernel)
theorem s0_848 : Rw 0 848 849 1 14 2 0 0 := rw_of (by decide +kernel)
theorem s0_849 : Rw 0 849 850 1 14 0 0 0 := rw_of (by decide +kernel)
theorem s0_850 : Rw 0 850 852 2 11 4 0 0 := rw_of (by decide +kernel)
theorem s0_852 : Rw 0 852 853 1 1 (cd 1) 2 0 := rw_of (by decide +kernel)
theorem s0_853 : Rw 0 853 854 1 30 0 0 0 := rw_of (by decide +kernel)
theorem s0_854 : Rw 0 854 855 1 97 0 0 0 := rw_of (by decide +kernel)
theorem s0_855 : Rw 0 855 858 3 100 121 2 157 := rw_of (by decide +kernel)
theorem kc_739_121 : Kc 739 121 := kc_of (by decide) (by decide +kernel)
theorem s0_858 : Rw 0 858 860 2 17 6 0 0 := rw_of (by decide +kernel)
theorem s0_860 : Rw 0 860 863 3 60 919 0 0 := rw_of (by decide +kernel)
theorem law5_reply {B : eB} {n i : Int} {d : Nat} {M : Mm} {Q : Nat → eV → Mm → Prop} (hB : SB B n) (h0 : 0 ≤ i) (h1 : i ≤ n - 6) (hI : INV5 M i) (hk : ∀ M2, INV5 M2 (i + 6) → Wp B (d + 80) 0 23 [some (R 4096), some (R 0), some (R 739), some (R 769), some (I (i + 6)), none, none] [] M2 Q) : Wp B (d + 80) 0 835 [some (R 4096), some (R 0), some (R 739), some (R 769), some (I i), none, none] [] M Q := by
  obtain ⟨⟨⟨hP, hT, hW, hQW, hg0, hg9⟩, hA, i9, i2, i5, i11⟩, hR⟩ := hI
  have hB0 := RB_of hP
  obtain ⟨Kf9, hk9, hd9, hc9, hq9⟩ := id hR
  refine wk_al1 s0_835 (wk_al0 s0_836 (wk_il4 s0_837 (wk_c1 s0_839 (wk_iadd s0_840 (wk_saldf hB s0_841 ⟨by omega, by omega⟩ ?_)))))
  intro a1 b1
  refine wk_al3 s0_842 (wk_cs113_3 s0_843 rfl (lw5_reply _ M (scf B (i + 1)) (M 138 5) (M 10 10) (M 0 11) (M 0 13) (M 0 14) hP (by omega) (by omega) rfl (bf_138_5 hP).1 (bf_138_5 hP).2 rfl (bf_10_10 hP).1 (bf_10_10 hP).2 rfl (bf_0_11 hP).1 (bf_0_11 hP).2 rfl (bf_0_13 hP).1 (bf_0_13 hP).2 rfl (bf_0_14 hP).1 (bf_0_14 hP).2 (fun x y => by obtain ⟨z1, z2, z3, z4, z5⟩ := hq9.1 (scf B (i + 1)) x (by omega); rw [show M 169 (scf B (i + 1)) % 30 = M 754 (scf B (i + 1)) by have := hB0.2.2.2.1; omega]; exact RWC_ok hc9 _ z4 z5)) (cqI ?_))
  rintro z1 M1 ⟨hP1, hF1, x0, x1, x2, x3, x4⟩
  have hB1 := RB_of hP1
  refine wk_is5 s0_846 rfl (wk_al2 s0_848 (wk_al0 s0_849 (wk_il4 s0_850 (wk_c1 s0_852 (wk_iadd s0_853 (wk_saldf hB s0_854 ⟨by omega, by omega⟩ ?_))))))
  intro a2 b2
  have hz769 : ∀ (v : Int) (Mp : Mm), M1 = mUp Mp 769 0 v → M1 769 0 = v := fun v Mp e => mUp_at e
  obtain ⟨zc, hzl, hzu, hzo, hC⟩ : ∃ zc : Int, -1 ≤ zc ∧ zc ≤ 1 ∧ (z1 = 0 → M1 769 0 = ((zc % 18446744073709551616).toNat : Int)) ∧ ((z1 = 1 ∧ ((scf B (i + 1)) < 0 ∨ M 0 11 ≤ (scf B (i + 1))) ∧ ∀ a i : Int, 0 ≤ a → M1 a i = M a i) ∨ (z1 = 0 ∧ ¬ ((scf B (i + 1)) < 0 ∨ M 0 11 ≤ (scf B (i + 1))) ∧ ∃ (v : Int) (Mp : Mm), M1 = mUp Mp 769 0 v ∧ RB5 Mp ∧ (((M 0 13 = -1 ∨ M 138 5 = 12) ∧ zc = -1 ∧ ∀ a i : Int, Mp a i = M a i) ∨ (M 0 13 ≠ -1 ∧ M 138 5 < 12 ∧ ((kdC (cdX (M 136 (M 0 13)) (M 169 (scf B (i + 1)) / 30)) = 4 ∧ Mp 0 14 = SDN (M 0 14) ∧ zc = Mp 0 14 / 65536 % 2) ∨ (kdC (cdX (M 136 (M 0 13)) (M 169 (scf B (i + 1)) / 30)) ≠ 4 ∧ Mp 0 14 = M 0 14 ∧ ∀ x : Bool, runF (stV M 17 11 (M 0 13 / 64) (M 0 13 % 64).toNat) (CL M (679 + 2 * (M 169 (scf B (i + 1)) % 30))) [] = [x] → zc = 1 - b2i (ftV M 17 11 (M 169 (scf B (i + 1)) / 30) 0 (M 0 13 / 64) x (M 0 13 % 64).toNat))) ∧ 0 ≤ zc ∧ RECP M Mp (M 169 (scf B (i + 1)) / 30) (679 + 2 * (M 169 (scf B (i + 1)) % 30)) zc (M 138 5) (M 10 10))))) := by
    rcases x4 with ⟨hk1, t0, t1⟩ | ⟨hk1, z, Mp, f0, f1, f2, f3, f4, f5, f6⟩
    · exact ⟨0, by decide, by decide, fun q => by omega, Or.inl ⟨hk1, by omega, t1⟩⟩
    · exact ⟨z, f3, f4, fun _ => hz769 _ _ f0, Or.inr ⟨hk1, by omega, _, Mp, f0, RB_of f1, f6⟩⟩
  have hW1 : WS M1 := WS_sm (Sm.fr hF1 rfl) hW
  have hQ1 : QW M1 := QW_sm (Sm.fr hF1 rfl) hQW
  have w7 : M1 739 7 = M 739 7 := hF1.at g_739_7 rfl
  have w15 : M1 739 15 = M 739 15 := hF1.at g_739_15 rfl
  have hEB := hd9.2.2.2.1
  have w21 : M1 739 21 = M 739 21 := hF1.at g_739_21 rfl
  obtain ⟨O9, hO9⟩ : ∃ O : List Int, 0 ≤ (scf B (i + 1)) → (scf B (i + 1)) < M 739 21 → LST (fun k => M 747 k) (400 * M 754 (scf B (i + 1))) O := by
    by_cases q9 : 0 ≤ (scf B (i + 1)) ∧ (scf B (i + 1)) < M 739 21
    · obtain ⟨-, -, -, z4, z5⟩ := hq9.1 (scf B (i + 1)) q9.1 q9.2
      obtain ⟨O, hO⟩ := RWC_ex hc9 (M 754 (scf B (i + 1)))
      exact ⟨O, fun _ _ => hO z4 z5⟩
    · exact ⟨[], fun a b => absurd ⟨a, b⟩ q9⟩
  refine wk_cv2 s0_855 kc_739_121 rfl (n8121_739 _ M1 (scf B (i + 1)) (M1 739 13) (M1 739 21) (M1 739 15) (M1 739 7) (M1 739 1) (M1 739 24) (M1 739 25) (M1 739 0) O9 hP1 (by omega) (by omega) rfl (bf_739_13 hP1).1 (bf_739_13 hP1).2 rfl (bf_739_21 hP1).1 (bf_739_21 hP1).2 rfl (bf_739_15 hP1).1 (bf_739_15 hP1).2 rfl (bf_739_7 hP1).1 (bf_739_7 hP1).2 rfl (bf_739_1 hP1).1 (bf_739_1 hP1).2 rfl (bf_739_24 hP1).1 (bf_739_24 hP1).2 rfl (bf_739_25 hP1).1 (bf_739_25 hP1).2 rfl (bf_739_0 hP1).1 (bf_739_0 hP1).2 (fun a b => by rw [show (fun k => M1 747 k) = (fun k => M 747 k) from funext fun k => hF1.at (gr_747 (by decide) (by decide) k) rfl, show M1 754 (scf B (i + 1)) = M 754 (scf B (i + 1)) from hF1.at (gr_754 (by decide) (by decide) _) rfl]; exact hO9 a (by omega)) (fun w a b => by rw [hF1.at (gr_751 (by decide) (by decide) w) rfl, hF1.at (gr_752 (by decide) (by decide) w) rfl, w15]; exact hEB w a (by rw [w7] at b; exact b)) hW1 hQ1) (cqI ?_)
  rintro z2 M2 ⟨hP2, hF2, y0, y1, y2, y3, y4, y5⟩
  have hg2 := hF2.at g_below rfl
  have hg1 : True := trivial
  have u_0_1 := hF1.at g_0_1 rfl
  have v_0_1 := hF2.at g_0_1 rfl
  have u_0_9 := hF1.at g_0_9 rfl
  have v_0_9 := hF2.at g_0_9 rfl
  have u_2_1 := hF1.at g_2_1 rfl
  have v_2_1 := hF2.at g_2_1 rfl
  have u_0_5 := hF1.at g_0_5 rfl
  have v_0_5 := hF2.at g_0_5 rfl
  have u_0_11 := hF1.at g_0_11 rfl
  have v_0_11 := hF2.at g_0_11 rfl
  have u_739_27 := hF1.at g_739_27 rfl
  have v_739_27 := hF2.at g_739_27 rfl
  have u_739_13 := hF1.at g_739_13 rfl
  have v_739_13 := hF2.at g_739_13 rfl
  have u_739_1 := hF1.at g_739_1 rfl
  have v_739_1 := hF2.at g_739_1 rfl
  have u_739_29 := hF1.at g_739_29 rfl
  have v_739_29 := hF2.at g_739_29 rfl
  have u_739_21 := hF1.at g_739_21 rfl
  have v_739_21 := hF2.at g_739_21 rfl
  have hb := bf_0_1 hP
  have hA2 : TA (fun k => M2 1 k) (fun k => M2 755 k) (M2 0 1) := TA_mv hA (fun k => (hF2.at (ga_1 k) rfl).trans (hF1.at (ga_1 k) rfl)) (fun k => (hF2.at (ga_755 k) rfl).trans (hF1.at (ga_755 k) rfl)) (by omega)
  have hRR := R5_reply (bad := ((scf B (i + 1)) < 0 ∨ M 0 11 ≤ (scf B (i + 1)))) (q := (scf B (i + 1))) (z1 := zc) (z2 := z2) hR hB0 hB1 hP (fun q0 => by omega) (fun q0 => by omega) hzu (by rcases hC with ⟨-, c1, c2⟩ | ⟨-, c1, c2⟩; (exact Or.inl ⟨c1, c2⟩); (exact Or.inr ⟨c1, c2⟩)) (Sm.fr hF1 rfl) (Sm.fr hF1 rfl) (Sm.fr hF1 rfl) (Sm.fr hF1 rfl) (hF1.at g_2_1 rfl) (fun k => hF1.at (gr_169 (by decide) (by decide) k) rfl) (hF1.at g_0_13 rfl) y2 (Sm.fr hF2 rfl) (Sm.fr hF2 rfl) (Sm.fr hF2 rfl) (Sm.fr hF2 rfl) (Sm.fr hF2 rfl) (Sm.fr hF2 rfl) (hF2.at g_739_21 rfl) (hF2.at g_739_24 rfl) (hF2.at g_739_7 rfl) (fun k => hF2.at (gr_753 (by decide) (by decide) k) rfl) (fun k => hF2.at (gr_754 (by decide) (by decide) k) rfl) hO9 g769_ex
  have hR2 := hRR.1
  have hI2 : INV5 M2 (i + 6) := ⟨⟨⟨hP2, by omega, y4, y5, by omega, by omega⟩, hA2, by omega, by omega, by omega, by omega⟩, hR2⟩
  exact wk_is6 s0_858 rfl (wk_goto s0_860 (wk_inc4 s0_919 rfl (wk_goto s0_922 (wp_fg (le_s (le_s (le_s (le_s (le_s (le_n (le_n le_0))))))) (hk M2 hI2)))))
theorem s0_863 : Rw 0 863 864 1 14 1 0 0 := rw_of (by decide +kernel)
theorem s0_864 : Rw 0 864 865 1 14 0 0 0 := rw_of (by decide +kernel)
theorem s0_865 : Rw 0 865 867 2 11 4 0 0 := rw_of (by decide +kernel)
theorem s0_867 : Rw 0 867 868 1 1 (cd 1) 2 0 := rw_of (by decide +kernel)
theorem s0_868 : Rw 0 868 869 1 30 0 0 0 := rw_of (by decide +kernel)
theorem s0_869 : Rw 0 869 870 1 97 0 0 0 := rw_of (by decide +kernel)
theorem s0_870 : Rw 0 870 871 1 14 3 0 0 := rw_of (by decide +kernel)
theorem s0_871 : Rw 0 871 874 3 113 259 3 158 := rw_of (by decide +kernel)
theorem s0_874 : Rw 0 874 876 2 17 5 0 0 := rw_of (by decide +kernel)
theorem s0_876 : Rw 0 876 877 1 14 2 0 0 := rw_of (by decide +kernel)
theorem s0_877 : Rw 0 877 878 1 14 0 0 0 := rw_of (by decide +kernel)
theorem s0_878 : Rw 0 878 880 2 11 4 0 0 := rw_of (by decide +kernel)
theorem s0_880 : Rw 0 880 881 1 1 (cd 1) 2 0 := rw_of (by decide +kernel)
theorem s0_881 : Rw 0 881 882 1 30 0 0 0 := rw_of (by decide +kernel)
theorem s0_882 : Rw 0 882 883 1 97 0 0 0 := rw_of (by decide +kernel)
theorem s0_883 : Rw 0 883 886 3 100 122 2 160 := rw_of (by decide +kernel)
theorem kc_739_122 : Kc 739 122 := kc_of (by decide) (by decide +kernel)
theorem s0_886 : Rw 0 886 888 2 17 6 0 0 := rw_of (by decide +kernel)
theorem s0_888 : Rw 0 888 891 3 60 919 0 0 := rw_of (by decide +kernel)
theorem law5_riddle {B : eB} {n i : Int} {d : Nat} {M : Mm} {Q : Nat → eV → Mm → Prop} (hB : SB B n) (h0 : 0 ≤ i) (h1 : i ≤ n - 6) (hI : INV5 M i) (hk : ∀ M2, INV5 M2 (i + 6) → Wp B (d + 80) 0 23 [some (R 4096), some (R 0), some (R 739), some (R 769), some (I (i + 6)), none, none] [] M2 Q) : Wp B (d + 80) 0 863 [some (R 4096), some (R 0), some (R 739), some (R 769), some (I i), none, none] [] M Q := by
  obtain ⟨⟨⟨hP, hT, hW, hQW, hg0, hg9⟩, hA, i9, i2, i5, i11⟩, hR⟩ := hI
  have hB0 := RB_of hP
  obtain ⟨Kf9, hk9, hd9, hc9, hq9⟩ := id hR
  refine wk_al1 s0_863 (wk_al0 s0_864 (wk_il4 s0_865 (wk_c1 s0_867 (wk_iadd s0_868 (wk_saldf hB s0_869 ⟨by omega, by omega⟩ ?_)))))
  intro a1 b1
  refine wk_al3 s0_870 (wk_cs113_3 s0_871 rfl (lw_riddle _ M (scf B (i + 1)) hP (by omega) (by omega)) (cqI ?_))
  rintro z1 M1 ⟨hP1, hF1, x0, x1, x2, x3⟩
  have hB1 := RB_of hP1
  refine wk_is5 s0_874 rfl (wk_al2 s0_876 (wk_al0 s0_877 (wk_il4 s0_878 (wk_c1 s0_880 (wk_iadd s0_881 (wk_saldf hB s0_882 ⟨by omega, by omega⟩ ?_))))))
  intro a2 b2
  have hW1 : WS M1 := WS_sm (Sm.fr hF1 rfl) hW
  have hQ1 : QW M1 := QW_sm (Sm.fr hF1 rfl) hQW
  have w7 : M1 739 7 = M 739 7 := hF1.at g_739_7 rfl
  have w15 : M1 739 15 = M 739 15 := hF1.at g_739_15 rfl
  have hEB := hd9.2.2.2.1
  refine wk_cv2 s0_883 kc_739_122 rfl (n9122_739 _ M1 (scf B (i + 1)) (M1 739 13) (M1 739 7) (M1 739 1) (M1 739 15) hP1 (by omega) (by omega) rfl (bf_739_13 hP1).1 (bf_739_13 hP1).2 rfl (bf_739_7 hP1).1 (bf_739_7 hP1).2 rfl (bf_739_1 hP1).1 (bf_739_1 hP1).2 rfl (bf_739_15 hP1).1 (bf_739_15 hP1).2 (fun w a b => by rw [hF1.at (gr_751 (by decide) (by decide) w) rfl, w15]; exact (hEB w a (by rw [w7] at b; exact b)).1) hW1 hQ1) (cqI ?_)
  rintro z2 M2 ⟨hP2, hF2, y0, y1, y2, y3, y4, y5⟩
  have hg2 := hF2.at g_below rfl
  have hg1 : True := trivial
  have u_0_1 := hF1.at g_0_1 rfl
  have v_0_1 := hF2.at g_0_1 rfl
  have u_0_9 := hF1.at g_0_9 rfl
  have v_0_9 := hF2.at g_0_9 rfl
  have u_2_1 := hF1.at g_2_1 rfl
  have v_2_1 := hF2.at g_2_1 rfl
  have u_0_5 := hF1.at g_0_5 rfl
  have v_0_5 := hF2.at g_0_5 rfl
  have u_0_11 := hF1.at g_0_11 rfl
  have v_0_11 := hF2.at g_0_11 rfl
  have u_739_27 := hF1.at g_739_27 rfl
  have v_739_27 := hF2.at g_739_27 rfl
  have u_739_13 := hF1.at g_739_13 rfl
  have v_739_13 := hF2.at g_739_13 rfl
  have u_739_1 := hF1.at g_739_1 rfl
  have v_739_1 := hF2.at g_739_1 rfl
  have u_739_29 := hF1.at g_739_29 rfl
  have v_739_29 := hF2.at g_739_29 rfl
  have u_739_21 := hF1.at g_739_21 rfl
  have v_739_21 := hF2.at g_739_21 rfl
  have hb := bf_0_1 hP
  have hA2 : TA (fun k => M2 1 k) (fun k => M2 755 k) (M2 0 1) := TA_mv hA (fun k => (hF2.at (ga_1 k) rfl).trans (hF1.at (ga_1 k) rfl)) (fun k => (hF2.at (ga_755 k) rfl).trans (hF1.at (ga_755 k) rfl)) (by omega)
  have hR2 : RELW M2 := R5_2 hR hB0 hB1 (Sm.fr hF1 rfl) (Sm.fr hF1 rfl) (Sm.fr hF1 rfl) (Sm.fr hF1 rfl) (Sm.fr hF1 rfl) (Sm.fr hF1 rfl) (Sm.fr hF1 rfl) (Sm.fr hF1 rfl) (Sm.fr hF2 rfl) (Sm.fr hF2 rfl) (Sm.fr hF2 rfl) (Sm.fr hF2 rfl) (MSK_8 (Sm.fr hF2 rfl) (fun k hk2 => y5.2 k (by have := (bf_739_15 hP1).1; omega))) ⟨hF2.at g_739_15 rfl, hF2.at g_739_7 rfl, fun k _ hk2 => y5.2 k hk2, fun w a b => ⟨y2 w a b, hF2.at (gr_752 (by decide) (by decide) w) rfl⟩⟩ (MSC_sm (Sm.fr hF2 rfl)) (MSQ_sm (Sm.fr hF2 rfl))
  have hI2 : INV5 M2 (i + 6) := ⟨⟨⟨hP2, by omega, y3, y4, by omega, by omega⟩, hA2, by omega, by omega, by omega, by omega⟩, hR2⟩
  exact wk_is6 s0_886 rfl (wk_goto s0_888 (wk_inc4 s0_919 rfl (wk_goto s0_922 (wp_fg (le_s (le_s (le_s (le_s (le_s (le_n (le_n le_0))))))) (hk M2 hI2)))))
theorem s0_891 : Rw 0 891 892 1 14 1 0 0 := rw_of (by decide +kernel)
theorem s0_892 : Rw 0 892 893 1 14 0 0 0 := rw_of (by decide +kernel)
theorem s0_893 : Rw 0 893 895 2 11 4 0 0 := rw_of (by decide +kernel)
theorem s0_895 : Rw 0 895 896 1 1 (cd 1) 2 0 := rw_of (by decide +kernel)
theorem s0_896 : Rw 0 896 897 1 30 0 0 0 := rw_of (by decide +kernel)
theorem s0_897 : Rw 0 897 898 1 97 0 0 0 := rw_of (by decide +kernel)
theorem s0_898 : Rw 0 898 899 1 14 3 0 0 := rw_of (by decide +kernel)
theorem s0_899 : Rw 0 899 902 3 113 255 3 161 := rw_of (by decide +kernel)
theorem s0_902 : Rw 0 902 904 2 17 5 0 0 := rw_of (by decide +kernel)
theorem s0_904 : Rw 0 904 905 1 14 2 0 0 := rw_of (by decide +kernel)
theorem s0_905 : Rw 0 905 906 1 14 0 0 0 := rw_of (by decide +kernel)
theorem s0_906 : Rw 0 906 908 2 11 4 0 0 := rw_of (by decide +kernel)
theorem s0_908 : Rw 0 908 909 1 1 (cd 1) 2 0 := rw_of (by decide +kernel)
theorem s0_909 : Rw 0 909 910 1 30 0 0 0 := rw_of (by decide +kernel)
theorem s0_910 : Rw 0 910 911 1 97 0 0 0 := rw_of (by decide +kernel)
theorem s0_911 : Rw 0 911 914 3 100 105 2 163 := rw_of (by decide +kernel)
theorem kc_739_105 : Kc 739 105 := kc_of (by decide) (by decide +kernel)
theorem s0_914 : Rw 0 914 916 2 17 6 0 0 := rw_of (by decide +kernel)
theorem s0_916 : Rw 0 916 919 3 60 919 0 0 := rw_of (by decide +kernel)
theorem law5_line {B : eB} {n i : Int} {d : Nat} {M : Mm} {Q : Nat → eV → Mm → Prop} (hB : SB B n) (h0 : 0 ≤ i) (h1 : i ≤ n - 6) (hI : INV5 M i) (hk : ∀ M2, INV5 M2 (i + 6) → Wp B (d + 80) 0 23 [some (R 4096), some (R 0), some (R 739), some (R 769), some (I (i + 6)), none, none] [] M2 Q) : Wp B (d + 80) 0 891 [some (R 4096), some (R 0), some (R 739), some (R 769), some (I i), none, none] [] M Q := by
  obtain ⟨⟨⟨hP, hT, hW, hQW, hg0, hg9⟩, hA, i9, i2, i5, i11⟩, hR⟩ := hI
  have hB0 := RB_of hP
  obtain ⟨Kf9, hk9, hd9, hc9, hq9⟩ := id hR
  refine wk_al1 s0_891 (wk_al0 s0_892 (wk_il4 s0_893 (wk_c1 s0_895 (wk_iadd s0_896 (wk_saldf hB s0_897 ⟨by omega, by omega⟩ ?_)))))
  intro a1 b1
  refine wk_al3 s0_898 (wk_cs113_3 s0_899 rfl (lw_line _ M (scf B (i + 1)) hP (by omega) (by omega)) (cqI ?_))
  rintro z1 M1 ⟨hP1, hF1, x0, x1, x2, x3⟩
  have hB1 := RB_of hP1
  refine wk_is5 s0_902 rfl (wk_al2 s0_904 (wk_al0 s0_905 (wk_il4 s0_906 (wk_c1 s0_908 (wk_iadd s0_909 (wk_saldf hB s0_910 ⟨by omega, by omega⟩ ?_))))))
  intro a2 b2
  have hW1 : WS M1 := WS_sm (Sm.fr hF1 rfl) hW
  have hQ1 : QW M1 := QW_sm (Sm.fr hF1 rfl) hQW
  refine wk_cv2 s0_911 kc_739_105 rfl (m105_739 _ M1 (scf B (i + 1)) hP1 (by omega) (by omega)) (cqI ?_)
  rintro z2 M2 ⟨hP2, hF2, y0, y1⟩
  have hg2 := hF2.at g_below rfl
  have hg1 : True := trivial
  have u_0_1 := hF1.at g_0_1 rfl
  have v_0_1 := hF2.at g_0_1 rfl
  have u_0_9 := hF1.at g_0_9 rfl
  have v_0_9 := hF2.at g_0_9 rfl
  have u_2_1 := hF1.at g_2_1 rfl
  have v_2_1 := hF2.at g_2_1 rfl
  have u_0_5 := hF1.at g_0_5 rfl
  have v_0_5 := hF2.at g_0_5 rfl
  have u_0_11 := hF1.at g_0_11 rfl
  have v_0_11 := hF2.at g_0_11 rfl
  have u_739_27 := hF1.at g_739_27 rfl
  have v_739_27 := hF2.at g_739_27 rfl
  have u_739_13 := hF1.at g_739_13 rfl
  have v_739_13 := hF2.at g_739_13 rfl
  have u_739_1 := hF1.at g_739_1 rfl
  have v_739_1 := hF2.at g_739_1 rfl
  have u_739_29 := hF1.at g_739_29 rfl
  have v_739_29 := hF2.at g_739_29 rfl
  have u_739_21 := hF1.at g_739_21 rfl
  have v_739_21 := hF2.at g_739_21 rfl
  have hb := bf_0_1 hP
  have hA2 : TA (fun k => M2 1 k) (fun k => M2 755 k) (M2 0 1) := TA_mv hA (fun k => (hF2.at (ga_1 k) rfl).trans (hF1.at (ga_1 k) rfl)) (fun k => (hF2.at (ga_755 k) rfl).trans (hF1.at (ga_755 k) rfl)) (by omega)
  have hR2 : RELW M2 := R5_2 hR hB0 hB1 (Sm.fr hF1 rfl) (Sm.fr hF1 rfl) (Sm.fr hF1 rfl) (Sm.fr hF1 rfl) (Sm.fr hF1 rfl) (Sm.fr hF1 rfl) (Sm.fr hF1 rfl) (Sm.fr hF1 rfl) (Sm.fr hF2 rfl) (Sm.fr hF2 rfl) (Sm.fr hF2 rfl) (Sm.fr hF2 rfl) (MSK_sm (Sm.fr hF2 rfl)) (MSD_sm (Sm.fr hF2 rfl)) (MSC_sm (Sm.fr hF2 rfl)) (MSQ_sm (Sm.fr hF2 rfl))
  have hI2 : INV5 M2 (i + 6) := ⟨⟨⟨hP2, by omega, WS_sm (Sm.fr hF2 rfl) hW1, QW_sm (Sm.fr hF2 rfl) hQ1, by omega, by omega⟩, hA2, by omega, by omega, by omega, by omega⟩, hR2⟩
  exact wk_is6 s0_914 rfl (wk_goto s0_916 (wk_inc4 s0_919 rfl (wk_goto s0_922 (wp_fg (le_s (le_s (le_s (le_s (le_s (le_n (le_n le_0))))))) (hk M2 hI2)))))
theorem s0_23 : Rw 0 23 25 2 11 4 0 0 := rw_of (by decide +kernel)
theorem s0_25 : Rw 0 25 26 1 14 0 0 0 := rw_of (by decide +kernel)
theorem s0_26 : Rw 0 26 27 1 98 0 0 0 := rw_of (by decide +kernel)
theorem s0_27 : Rw 0 27 29 2 2 (cd 6) 134 0 := rw_of (by decide +kernel)
theorem s0_29 : Rw 0 29 30 1 31 0 0 0 := rw_of (by decide +kernel)
theorem s0_30 : Rw 0 30 33 3 71 925 0 0 := rw_of (by decide +kernel)
theorem s0_33 : Rw 0 33 34 1 14 0 0 0 := rw_of (by decide +kernel)
theorem s0_34 : Rw 0 34 36 2 11 4 0 0 := rw_of (by decide +kernel)
theorem s0_36 : Rw 0 36 37 1 97 0 0 0 := rw_of (by decide +kernel)
theorem s0_37 : Rw 0 37 39 2 2 (cd 31) 159 0 := rw_of (by decide +kernel)
theorem s0_39 : Rw 0 39 40 1 33 0 0 0 := rw_of (by decide +kernel)
theorem s0_925 : Rw 0 925 926 1 1 (cd 1) 2 0 := rw_of (by decide +kernel)
theorem s0_926 : Rw 0 926 927 1 74 1 0 0 := rw_of (by decide +kernel)
theorem s0_40 : Rw 0 40 43 3 73 0 0 0 := rw_of (by decide +kernel)
theorem law5_loop {B : eB} {n : Int} (hB : SB B n) (d : Nat) {Q : Nat → eV → Mm → Prop} (hQ : ∀ M : Mm, 6 * M (-1) 0 ≤ 3072 → 0 ≤ M (-1) 0 → Q 1 (I 1) M) : ∀ (k : Nat) (i : Int) (M : Mm), (n - i).toNat = k → 0 ≤ i → i ≤ n → INV5 M i → Wp B (d + 80) 0 23 [some (R 4096), some (R 0), some (R 739), some (R 769), some (I i), none, none] [] M Q := by
  refine lp_ind ?_
  intro k ih i M hk h0 h1 hI
  have hn : n ≤ 3072 := hB.2.1
  refine wk_il4 s0_23 (wk_al0 s0_25 (wk_slen hB s0_26 (wk_c2 s0_27 (wk_isub s0_29 ?_))))
  refine wk_icgt s0_30 ⟨by omega, by omega⟩ ⟨by omega, by omega⟩ ?_ ?_
  · intro _
    exact wk_c1 s0_925 (wk_zret s0_926 (by decide) (hQ M (by have := hI.1.1.2.2.2.2.2; omega) hI.1.1.2.2.2.2.1))
  · intro h
    have hk2 : ∀ M2, INV5 M2 (i + 6) → Wp B (d + 80) 0 23 [some (R 4096), some (R 0), some (R 739), some (R 769), some (I (i + 6)), none, none] [] M2 Q := fun M2 h2 => ih (n - (i + 6)).toNat (by omega) (i + 6) M2 rfl (by omega) (by omega) h2
    refine wk_al0 s0_33 (wk_il4 s0_34 (wk_saldf hB s0_36 ⟨by omega, by omega⟩ ?_))
    intro q1 q2
    refine wk_c2 s0_37 (wk_iandc 5 32 s0_39 ⟨rfl, by decide⟩ rfl ?_)
    refine wk_sw0 s0_40 ⟨by omega, by omega⟩ ?_ ?_ ?_ ?_ ?_ ?_ ?_ ?_ ?_ ?_ ?_ ?_ ?_ ?_ ?_ ?_ ?_ ?_ ?_ ?_ ?_ ?_ ?_ ?_ ?_ ?_
    · intro _
      exact wk_inc4 s0_919 rfl (wk_goto s0_922 (hk2 M ⟨INV4_on hI.1, hI.2⟩))
    · intro _
      exact law5_feed hB h0 (by omega) hI hk2
    · intro _
      exact law5_island hB h0 (by omega) hI hk2
    · intro _
      exact law5_sentence hB h0 (by omega) hI hk2
    · intro _
      exact law5_fault hB h0 (by omega) hI hk2
    · intro _
      exact law5_count hB h0 (by omega) hI hk2
    · intro _
      exact law5_may hB h0 (by omega) hI hk2
    · intro _
      exact law5_says hB h0 (by omega) hI hk2
    · intro _
      exact law5_answers hB h0 (by omega) hI hk2
    · intro _
      exact law5_back hB h0 (by omega) hI hk2
    · intro _
      exact law5_worlds hB h0 (by omega) hI hk2
    · intro _
      exact law5_world hB h0 (by omega) hI hk2
    · intro _
      exact law5_told hB h0 (by omega) hI hk2
    · intro _
      exact law5_can hB h0 (by omega) hI hk2
    · intro _
      exact law5_could hB h0 (by omega) hI hk2
    · intro _
      exact law5_needless hB h0 (by omega) hI hk2
    · intro _
      exact law5_enough hB h0 (by omega) hI hk2
    · intro _
      exact law5_knots hB h0 (by omega) hI hk2
    · intro _
      exact law5_knot hB h0 (by omega) hI hk2
    · intro _
      exact law5_question hB h0 (by omega) hI hk2
    · intro _
      exact law5_fewest hB h0 (by omega) hI hk2
    · intro _
      exact law5_first hB h0 (by omega) hI hk2
    · intro _
      exact law5_hide hB h0 (by omega) hI hk2
    · intro _
      exact law5_reply hB h0 (by omega) hI hk2
    · intro _
      exact law5_riddle hB h0 (by omega) hI hk2
    · intro _
      exact law5_line hB h0 (by omega) hI hk2
