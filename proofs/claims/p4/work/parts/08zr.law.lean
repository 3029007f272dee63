/-! ===== written by program (wip/layer4/law4.py): the law, call by call, both parsers alike ===== -/
/-- the script's numbers -/
def scf (B : eB) (i : Int) : Int := ((B (1099511627776 + i.toNat)).1 : Int) - 2147483648
theorem wk_saldf {B : eB} {d y pc pc2 : Nat} {L : List (Option eV)} {st : List eV} {M : Mm} {Q : Nat → eV → Mm → Prop} {a b c : Nat} {n i : Int} (hB : SB B n) (hr : Rw y pc pc2 1 97 a b c) (hi : 0 ≤ i ∧ i < n) (hk : -2147483648 ≤ scf B i → scf B i < 2147483648 → Wp B d y pc2 L (I (scf B i) :: st) M Q) : Wp B d y pc L (I i :: R 4096 :: st) M Q := by
  obtain ⟨h0, h1, h2, h3, h4⟩ := hB
  obtain ⟨x, rfl⟩ := Int.eq_ofNat_of_zero_le hi.1
  obtain ⟨q1, q2⟩ := h4 x hi.2
  have es : scf B (x : Int) = ((B (1099511627776 + x)).1 : Int) - 2147483648 := by unfold scf; rw [Int.toNat_natCast]
  rw [es] at hk
  obtain ⟨u, hu⟩ : ∃ u, (B (1099511627776 + x)).1 = u := ⟨_, rfl⟩
  rw [hu] at q1 q2 hk
  refine r_plain hr rfl (fun E lo h hV _ => ?_) (hk (by omega) (by omega))
  have e : cd (x : Int) = x := (cd_of_nat (by omega)).symm
  show cond (Nat.beq 4096 4096 && Nat.beq (B 0).2 1 && Nat.ble (cd (x : Int) + 1) (B 0).1 && Nat.ble (cd (x : Int)) 4095 && Nat.beq (B (1099511627776 + cd (x : Int))).1 (B (1099511627776 + cd (x : Int))).2 && l32 (B (1099511627776 + cd (x : Int))).1) (eN (pc + 1) lo (.inl (((B (1099511627776 + cd (x : Int))).1 + 2147483648) % 4294967296) :: st) h) none = _
  rw [e, hu, q1, h3, h2, show Nat.beq u u = true from Nat.beq_refl u, show Nat.ble (x + 1) n.toNat = true from Nat.ble_eq_true_of_le (by omega), show Nat.ble x 4095 = true from Nat.ble_eq_true_of_le (by omega), show l32 u = true from Nat.ble_eq_true_of_le (by omega)]
  show eN (pc + 1) lo (.inl ((u + 2147483648) % 4294967296) :: st) h = eN (pc + 1) lo (.inl (cd ((u : Int) - 2147483648)) :: st) h
  refine congrArg (fun x : Nat => eN (pc + 1) lo ((Sum.inl x : eV) :: st) h) ?_
  unfold cd
  omega
/-- what holds between two calls -/
def INV (M : Mm) (i : Int) : Prop := Pw M ∧ M 0 1 = M 739 27 ∧ WS M ∧ QW M ∧ 0 ≤ M (-1) 0 ∧ 6 * M (-1) 0 ≤ i
theorem TA_mv {u u2 v v2 : Int → Int} {t t2 : Int} (h : TA u v t) (hu : ∀ k, u2 k = u k) (hv : ∀ k, v2 k = v k) (ht : t2 ≤ t) : TA u2 v2 t2 := fun k a b => by rw [hu k, hv k]; exact h k a (by omega)
/-- what holds between two calls: the tapes hold the same, as many people, sentences, questions, the same place of a fault -/
def INV4 (M : Mm) (i : Int) : Prop := INV M i ∧ TA (fun k => M 1 k) (fun k => M 755 k) (M 0 1) ∧ M 0 9 = M 739 13 ∧ M 2 1 = M 739 1 ∧ M 0 5 = M 739 29 ∧ M 0 11 = M 739 21
theorem INV4_on {M : Mm} {i : Int} (h : INV4 M i) : INV4 M (i + 6) := ⟨⟨h.1.1, h.1.2.1, h.1.2.2.1, h.1.2.2.2.1, h.1.2.2.2.2.1, by have := h.1.2.2.2.2.2; omega⟩, h.2⟩
theorem r0_156 : Rw 0 156 157 1 14 1 0 0 := rw_of (by decide +kernel)
theorem r0_157 : Rw 0 157 158 1 14 0 0 0 := rw_of (by decide +kernel)
theorem r0_158 : Rw 0 158 160 2 11 4 0 0 := rw_of (by decide +kernel)
theorem r0_160 : Rw 0 160 161 1 1 (cd 1) 2 0 := rw_of (by decide +kernel)
theorem r0_161 : Rw 0 161 162 1 30 0 0 0 := rw_of (by decide +kernel)
theorem r0_162 : Rw 0 162 163 1 97 0 0 0 := rw_of (by decide +kernel)
theorem r0_163 : Rw 0 163 164 1 14 0 0 0 := rw_of (by decide +kernel)
theorem r0_164 : Rw 0 164 166 2 11 4 0 0 := rw_of (by decide +kernel)
theorem r0_166 : Rw 0 166 167 1 1 (cd 2) 3 0 := rw_of (by decide +kernel)
theorem r0_167 : Rw 0 167 168 1 30 0 0 0 := rw_of (by decide +kernel)
theorem r0_168 : Rw 0 168 169 1 97 0 0 0 := rw_of (by decide +kernel)
theorem r0_169 : Rw 0 169 170 1 14 0 0 0 := rw_of (by decide +kernel)
theorem r0_170 : Rw 0 170 172 2 11 4 0 0 := rw_of (by decide +kernel)
theorem r0_172 : Rw 0 172 173 1 1 (cd 3) 4 0 := rw_of (by decide +kernel)
theorem r0_173 : Rw 0 173 174 1 30 0 0 0 := rw_of (by decide +kernel)
theorem r0_174 : Rw 0 174 175 1 97 0 0 0 := rw_of (by decide +kernel)
theorem r0_175 : Rw 0 175 176 1 14 0 0 0 := rw_of (by decide +kernel)
theorem r0_176 : Rw 0 176 178 2 11 4 0 0 := rw_of (by decide +kernel)
theorem r0_178 : Rw 0 178 179 1 1 (cd 4) 5 0 := rw_of (by decide +kernel)
theorem r0_179 : Rw 0 179 180 1 30 0 0 0 := rw_of (by decide +kernel)
theorem r0_180 : Rw 0 180 181 1 97 0 0 0 := rw_of (by decide +kernel)
theorem r0_181 : Rw 0 181 182 1 14 0 0 0 := rw_of (by decide +kernel)
theorem r0_182 : Rw 0 182 184 2 11 4 0 0 := rw_of (by decide +kernel)
theorem r0_184 : Rw 0 184 185 1 1 (cd 5) 6 0 := rw_of (by decide +kernel)
theorem r0_185 : Rw 0 185 186 1 30 0 0 0 := rw_of (by decide +kernel)
theorem r0_186 : Rw 0 186 187 1 97 0 0 0 := rw_of (by decide +kernel)
theorem r0_187 : Rw 0 187 190 3 100 18 6 74 := rw_of (by decide +kernel)
theorem kc_0_18 : Kc 0 18 := kc_of (by decide) (by decide +kernel)
theorem r0_190 : Rw 0 190 191 1 53 0 0 0 := rw_of (by decide +kernel)
theorem r0_191 : Rw 0 191 192 1 14 2 0 0 := rw_of (by decide +kernel)
theorem r0_192 : Rw 0 192 193 1 14 0 0 0 := rw_of (by decide +kernel)
theorem r0_193 : Rw 0 193 195 2 11 4 0 0 := rw_of (by decide +kernel)
theorem r0_195 : Rw 0 195 196 1 1 (cd 1) 2 0 := rw_of (by decide +kernel)
theorem r0_196 : Rw 0 196 197 1 30 0 0 0 := rw_of (by decide +kernel)
theorem r0_197 : Rw 0 197 198 1 97 0 0 0 := rw_of (by decide +kernel)
theorem r0_198 : Rw 0 198 199 1 14 0 0 0 := rw_of (by decide +kernel)
theorem r0_199 : Rw 0 199 201 2 11 4 0 0 := rw_of (by decide +kernel)
theorem r0_201 : Rw 0 201 202 1 1 (cd 2) 3 0 := rw_of (by decide +kernel)
theorem r0_202 : Rw 0 202 203 1 30 0 0 0 := rw_of (by decide +kernel)
theorem r0_203 : Rw 0 203 204 1 97 0 0 0 := rw_of (by decide +kernel)
theorem r0_204 : Rw 0 204 205 1 14 0 0 0 := rw_of (by decide +kernel)
theorem r0_205 : Rw 0 205 207 2 11 4 0 0 := rw_of (by decide +kernel)
theorem r0_207 : Rw 0 207 208 1 1 (cd 3) 4 0 := rw_of (by decide +kernel)
theorem r0_208 : Rw 0 208 209 1 30 0 0 0 := rw_of (by decide +kernel)
theorem r0_209 : Rw 0 209 210 1 97 0 0 0 := rw_of (by decide +kernel)
theorem r0_210 : Rw 0 210 211 1 14 0 0 0 := rw_of (by decide +kernel)
theorem r0_211 : Rw 0 211 213 2 11 4 0 0 := rw_of (by decide +kernel)
theorem r0_213 : Rw 0 213 214 1 1 (cd 4) 5 0 := rw_of (by decide +kernel)
theorem r0_214 : Rw 0 214 215 1 30 0 0 0 := rw_of (by decide +kernel)
theorem r0_215 : Rw 0 215 216 1 97 0 0 0 := rw_of (by decide +kernel)
theorem r0_216 : Rw 0 216 217 1 14 0 0 0 := rw_of (by decide +kernel)
theorem r0_217 : Rw 0 217 219 2 11 4 0 0 := rw_of (by decide +kernel)
theorem r0_219 : Rw 0 219 220 1 1 (cd 5) 6 0 := rw_of (by decide +kernel)
theorem r0_220 : Rw 0 220 221 1 30 0 0 0 := rw_of (by decide +kernel)
theorem r0_221 : Rw 0 221 222 1 97 0 0 0 := rw_of (by decide +kernel)
theorem r0_222 : Rw 0 222 225 3 100 70 6 78 := rw_of (by decide +kernel)
theorem kc_739_70 : Kc 739 70 := kc_of (by decide) (by decide +kernel)
theorem r0_947 : Rw 0 947 950 3 22 4 (cd 6) 32774 := rw_of (by decide +kernel)
theorem r0_950 : Rw 0 950 953 3 60 23 0 0 := rw_of (by decide +kernel)
theorem r0_225 : Rw 0 225 226 1 53 0 0 0 := rw_of (by decide +kernel)
theorem r0_226 : Rw 0 226 229 3 60 947 0 0 := rw_of (by decide +kernel)
theorem law4_feed {B : eB} {n i : Int} {d : Nat} {M : Mm} {Q : Nat → eV → Mm → Prop} (hB : SB B n) (h0 : 0 ≤ i) (h1 : i ≤ n - 6) (hI : INV4 M i) (hk : ∀ M2, INV4 M2 (i + 6) → Wp B (d + 50) 0 23 [some (R 4096), some (R 0), some (R 739), some (R 769), some (I (i + 6)), none, none] [] M2 Q) : Wp B (d + 50) 0 156 [some (R 4096), some (R 0), some (R 739), some (R 769), some (I i), none, none] [] M Q := by
  obtain ⟨⟨hP, hT, hW, hQW, hg0, hg9⟩, hA, i9, i2, i5, i11⟩ := hI
  refine wk_al1 r0_156 (wk_al0 r0_157 (wk_il4 r0_158 (wk_c1 r0_160 (wk_iadd r0_161 (wk_saldf hB r0_162 ⟨by omega, by omega⟩ ?_)))))
  intro a1 b1
  refine wk_al0 r0_163 (wk_il4 r0_164 (wk_c1 r0_166 (wk_iadd r0_167 (wk_saldf hB r0_168 ⟨by omega, by omega⟩ ?_))))
  intro a2 b2
  refine wk_al0 r0_169 (wk_il4 r0_170 (wk_c1 r0_172 (wk_iadd r0_173 (wk_saldf hB r0_174 ⟨by omega, by omega⟩ ?_))))
  intro a3 b3
  refine wk_al0 r0_175 (wk_il4 r0_176 (wk_c1 r0_178 (wk_iadd r0_179 (wk_saldf hB r0_180 ⟨by omega, by omega⟩ ?_))))
  intro a4 b4
  refine wk_al0 r0_181 (wk_il4 r0_182 (wk_c1 r0_184 (wk_iadd r0_185 (wk_saldf hB r0_186 ⟨by omega, by omega⟩ ?_))))
  intro a5 b5
  refine wk_cv6 r0_187 kc_0_18 rfl (m7018_0 _ M (scf B (i + 1)) (scf B (i + 2)) (scf B (i + 3)) (scf B (i + 4)) (scf B (i + 5)) (M 0 1) hP (by omega) (by omega) (by omega) (by omega) (by omega) (by omega) (by omega) (by omega) (by omega) (by omega) rfl (bf_0_1 hP).1 (bf_0_1 hP).2) (cqI ?_)
  rintro z1 M1 ⟨hP1, hF1, x0, x1, x2, x3, x4⟩
  refine wk_popi r0_190 (wk_al2 r0_191 (wk_al0 r0_192 (wk_il4 r0_193 (wk_c1 r0_195 (wk_iadd r0_196 (wk_saldf hB r0_197 ⟨by omega, by omega⟩ ?_))))))
  intro a6 b6
  refine wk_al0 r0_198 (wk_il4 r0_199 (wk_c1 r0_201 (wk_iadd r0_202 (wk_saldf hB r0_203 ⟨by omega, by omega⟩ ?_))))
  intro a7 b7
  refine wk_al0 r0_204 (wk_il4 r0_205 (wk_c1 r0_207 (wk_iadd r0_208 (wk_saldf hB r0_209 ⟨by omega, by omega⟩ ?_))))
  intro a8 b8
  refine wk_al0 r0_210 (wk_il4 r0_211 (wk_c1 r0_213 (wk_iadd r0_214 (wk_saldf hB r0_215 ⟨by omega, by omega⟩ ?_))))
  intro a9 b9
  refine wk_al0 r0_216 (wk_il4 r0_217 (wk_c1 r0_219 (wk_iadd r0_220 (wk_saldf hB r0_221 ⟨by omega, by omega⟩ ?_))))
  intro a10 b10
  have hW1 : WS M1 := WS_sm (Sm.fr hF1 rfl) hW
  have hQ1 : QW M1 := QW_sm (Sm.fr hF1 rfl) hQW
  refine wk_cv6 r0_222 kc_739_70 rfl (m8070_739 _ M1 (scf B (i + 1)) (scf B (i + 2)) (scf B (i + 3)) (scf B (i + 4)) (scf B (i + 5)) (M1 739 27) hP1 (by omega) (by omega) (by omega) (by omega) (by omega) (by omega) (by omega) (by omega) (by omega) (by omega) rfl (bf_739_27 hP1).1 (bf_739_27 hP1).2) (cqI ?_)
  rintro z2 M2 ⟨hP2, hF2, y0, y1, y2, y3, y4⟩
  have hg2 := hF2.at g_below rfl
  have hg1 := hF1.at g_below rfl
  have v_0_1 := hF2.at g_0_1 rfl
  have u_0_9 := hF1.at g_0_9 rfl
  have v_0_9 := hF2.at g_0_9 rfl
  have u_2_1 := hF1.at g_2_1 rfl
  have v_2_1 := hF2.at g_2_1 rfl
  have u_0_5 := hF1.at g_0_5 rfl
  have v_0_5 := hF2.at g_0_5 rfl
  have u_0_11 := hF1.at g_0_11 rfl
  have v_0_11 := hF2.at g_0_11 rfl
  have u_739_27 := hF1.at g_739_27 rfl
  have u_739_13 := hF1.at g_739_13 rfl
  have v_739_13 := hF2.at g_739_13 rfl
  have u_739_1 := hF1.at g_739_1 rfl
  have v_739_1 := hF2.at g_739_1 rfl
  have u_739_29 := hF1.at g_739_29 rfl
  have v_739_29 := hF2.at g_739_29 rfl
  have u_739_21 := hF1.at g_739_21 rfl
  have v_739_21 := hF2.at g_739_21 rfl
  have hb := bf_0_1 hP
  have hA2 : TA (fun k => M2 1 k) (fun k => M2 755 k) (M2 0 1) := by
    by_cases q : M 0 1 ≤ 480
    · have a9 : TA (fun k => M 1 k) (fun k => M1 755 k) (M 0 1) := TA_mv hA (fun _ => rfl) (fun k => hF1.at (ga_755 k) rfl) (by omega)
      have e9 : M1 739 27 = M 0 1 := by omega
      have f9 := y3 (by omega)
      rw [e9] at f9
      have b9 := TA_fd a9 hb.1 (x3 q) f9
      exact TA_mv b9 (fun k => hF2.at (ga_1 k) rfl) (fun _ => rfl) (by omega)
    · exact TA_mv hA (fun k => (hF2.at (ga_1 k) rfl).trans (x4 (by omega) k)) (fun k => (y4 (by omega) k).trans (hF1.at (ga_755 k) rfl)) (by omega)
  have hI2 : INV4 M2 (i + 6) := ⟨⟨hP2, by omega, WS_sm (Sm.fr hF2 rfl) hW1, QW_sm (Sm.fr hF2 rfl) hQ1, by omega, by omega⟩, hA2, by omega, by omega, by omega, by omega⟩
  exact wk_popi r0_225 (wk_goto r0_226 (wk_inc4 r0_947 rfl (wk_goto r0_950 (wp_fg (le_s (le_s (le_s (le_s (le_s (le_s (le_s le_0))))))) (hk M2 hI2)))))
theorem r0_229 : Rw 0 229 230 1 14 1 0 0 := rw_of (by decide +kernel)
theorem r0_230 : Rw 0 230 231 1 14 0 0 0 := rw_of (by decide +kernel)
theorem r0_231 : Rw 0 231 233 2 11 4 0 0 := rw_of (by decide +kernel)
theorem r0_233 : Rw 0 233 234 1 1 (cd 1) 2 0 := rw_of (by decide +kernel)
theorem r0_234 : Rw 0 234 235 1 30 0 0 0 := rw_of (by decide +kernel)
theorem r0_235 : Rw 0 235 236 1 97 0 0 0 := rw_of (by decide +kernel)
theorem r0_236 : Rw 0 236 237 1 14 3 0 0 := rw_of (by decide +kernel)
theorem r0_237 : Rw 0 237 240 3 113 253 3 79 := rw_of (by decide +kernel)
theorem r0_240 : Rw 0 240 242 2 17 5 0 0 := rw_of (by decide +kernel)
theorem r0_242 : Rw 0 242 243 1 14 2 0 0 := rw_of (by decide +kernel)
theorem r0_243 : Rw 0 243 244 1 14 0 0 0 := rw_of (by decide +kernel)
theorem r0_244 : Rw 0 244 246 2 11 4 0 0 := rw_of (by decide +kernel)
theorem r0_246 : Rw 0 246 247 1 1 (cd 1) 2 0 := rw_of (by decide +kernel)
theorem r0_247 : Rw 0 247 248 1 30 0 0 0 := rw_of (by decide +kernel)
theorem r0_248 : Rw 0 248 249 1 97 0 0 0 := rw_of (by decide +kernel)
theorem r0_249 : Rw 0 249 252 3 100 91 2 84 := rw_of (by decide +kernel)
theorem kc_739_91 : Kc 739 91 := kc_of (by decide) (by decide +kernel)
theorem r0_252 : Rw 0 252 254 2 17 6 0 0 := rw_of (by decide +kernel)
theorem r0_254 : Rw 0 254 257 3 60 947 0 0 := rw_of (by decide +kernel)
theorem law4_island {B : eB} {n i : Int} {d : Nat} {M : Mm} {Q : Nat → eV → Mm → Prop} (hB : SB B n) (h0 : 0 ≤ i) (h1 : i ≤ n - 6) (hI : INV4 M i) (hk : ∀ M2, INV4 M2 (i + 6) → Wp B (d + 50) 0 23 [some (R 4096), some (R 0), some (R 739), some (R 769), some (I (i + 6)), none, none] [] M2 Q) : Wp B (d + 50) 0 229 [some (R 4096), some (R 0), some (R 739), some (R 769), some (I i), none, none] [] M Q := by
  obtain ⟨⟨hP, hT, hW, hQW, hg0, hg9⟩, hA, i9, i2, i5, i11⟩ := hI
  refine wk_al1 r0_229 (wk_al0 r0_230 (wk_il4 r0_231 (wk_c1 r0_233 (wk_iadd r0_234 (wk_saldf hB r0_235 ⟨by omega, by omega⟩ ?_)))))
  intro a1 b1
  refine wk_al3 r0_236 (wk_cs113_3 r0_237 rfl (lw4_island _ M (scf B (i + 1)) (M 0 1) (M 0 9) (M 0 5) (M 2 1) (M 0 11) (fun k => M 755 k) hP (by omega) (by omega) rfl (bf_0_1 hP).1 (bf_0_1 hP).2 rfl (bf_0_9 hP).1 (bf_0_9 hP).2 rfl (bf_0_5 hP).1 (bf_0_5 hP).2 rfl (by have := bf_2_1 hP; have := bf_739_1 hP; omega) (bf_2_1 hP).2 rfl (bf_0_11 hP).1 (bf_0_11 hP).2 (fun k a b => hA k a b)) (cqI ?_))
  rintro z1 M1 ⟨hP1, hF1, x0, x1, x2, x3, x4, ⟨w, wl, wu, hS, hz⟩⟩
  refine wk_is5 r0_240 rfl (wk_al2 r0_242 (wk_al0 r0_243 (wk_il4 r0_244 (wk_c1 r0_246 (wk_iadd r0_247 (wk_saldf hB r0_248 ⟨by omega, by omega⟩ ?_))))))
  intro a2 b2
  have hW1 : WS M1 := WS_sm (Sm.fr hF1 rfl) hW
  have hQ1 : QW M1 := QW_sm (Sm.fr hF1 rfl) hQW
  refine wk_cv2 r0_249 kc_739_91 rfl (m8091_739 _ M1 (scf B (i + 1)) (M1 739 27) (M1 739 29) (M1 739 13) (M1 739 1) (M1 739 21) (fun k => M 755 k) hP1 (by omega) (by omega) rfl (bf_739_27 hP1).1 (bf_739_27 hP1).2 rfl (bf_739_29 hP1).1 (bf_739_29 hP1).2 rfl (bf_739_13 hP1).1 (bf_739_13 hP1).2 rfl (bf_739_1 hP1).1 (bf_739_1 hP1).2 rfl (bf_739_21 hP1).1 (bf_739_21 hP1).2 (fun k _ _ => hF1.at (ga_755 k) rfl) hW1 hQ1) (cqI ?_)
  rintro z2 M2 ⟨hP2, hF2, y0, y1, y2, y3, y4, y5⟩
  have hg2 := hF2.at g_below rfl
  have hg1 : True := trivial
  have v_0_1 := hF2.at g_0_1 rfl
  have v_0_9 := hF2.at g_0_9 rfl
  have v_2_1 := hF2.at g_2_1 rfl
  have v_0_5 := hF2.at g_0_5 rfl
  have v_0_11 := hF2.at g_0_11 rfl
  have u_739_27 := hF1.at g_739_27 rfl
  have u_739_13 := hF1.at g_739_13 rfl
  have u_739_1 := hF1.at g_739_1 rfl
  have u_739_29 := hF1.at g_739_29 rfl
  have u_739_21 := hF1.at g_739_21 rfl
  have hb := bf_0_1 hP
  have w0 : M1 739 27 = M 0 1 := by omega
  have w1 : M1 739 1 = M 2 1 := by omega
  have w2 : M1 739 13 = M 0 9 := by omega
  have w3 : M1 739 21 = M 0 11 := by omega
  have w4 : M1 739 29 = M 0 5 := by omega
  rw [w0, w1, w2, w3, w4] at y3
  have hO := INR_one hS y3
  obtain ⟨o0, o1, o2, o3, o4, oz⟩ := hO
  have hA2 : TA (fun k => M2 1 k) (fun k => M2 755 k) (M2 0 1) := TA_mv hA (fun k => (hF2.at (ga_1 k) rfl).trans (hF1.at (ga_1 k) rfl)) (fun k => (hF2.at (ga_755 k) rfl).trans (hF1.at (ga_755 k) rfl)) (by omega)
  have hI2 : INV4 M2 (i + 6) := ⟨⟨hP2, by omega, y4, y5, by omega, by omega⟩, hA2, by omega, by omega, by omega, by omega⟩
  exact wk_is6 r0_252 rfl (wk_goto r0_254 (wk_inc4 r0_947 rfl (wk_goto r0_950 (wp_fg (le_s (le_s (le_s (le_s (le_s (le_n (le_n le_0))))))) (hk M2 hI2)))))
theorem r0_257 : Rw 0 257 258 1 14 1 0 0 := rw_of (by decide +kernel)
theorem r0_258 : Rw 0 258 259 1 14 0 0 0 := rw_of (by decide +kernel)
theorem r0_259 : Rw 0 259 261 2 11 4 0 0 := rw_of (by decide +kernel)
theorem r0_261 : Rw 0 261 262 1 1 (cd 1) 2 0 := rw_of (by decide +kernel)
theorem r0_262 : Rw 0 262 263 1 30 0 0 0 := rw_of (by decide +kernel)
theorem r0_263 : Rw 0 263 264 1 97 0 0 0 := rw_of (by decide +kernel)
theorem r0_264 : Rw 0 264 265 1 14 3 0 0 := rw_of (by decide +kernel)
theorem r0_265 : Rw 0 265 268 3 113 261 3 85 := rw_of (by decide +kernel)
theorem r0_268 : Rw 0 268 270 2 17 5 0 0 := rw_of (by decide +kernel)
theorem r0_270 : Rw 0 270 271 1 14 2 0 0 := rw_of (by decide +kernel)
theorem r0_271 : Rw 0 271 272 1 14 0 0 0 := rw_of (by decide +kernel)
theorem r0_272 : Rw 0 272 274 2 11 4 0 0 := rw_of (by decide +kernel)
theorem r0_274 : Rw 0 274 275 1 1 (cd 1) 2 0 := rw_of (by decide +kernel)
theorem r0_275 : Rw 0 275 276 1 30 0 0 0 := rw_of (by decide +kernel)
theorem r0_276 : Rw 0 276 277 1 97 0 0 0 := rw_of (by decide +kernel)
theorem r0_277 : Rw 0 277 280 3 100 126 2 87 := rw_of (by decide +kernel)
theorem kc_739_126 : Kc 739 126 := kc_of (by decide) (by decide +kernel)
theorem r0_280 : Rw 0 280 282 2 17 6 0 0 := rw_of (by decide +kernel)
theorem r0_282 : Rw 0 282 283 1 14 2 0 0 := rw_of (by decide +kernel)
theorem r0_283 : Rw 0 283 286 3 100 270 1 88 := rw_of (by decide +kernel)
theorem kc_739_270 : Kc 739 270 := kc_of (by decide) (by decide +kernel)
theorem r0_286 : Rw 0 286 288 2 11 5 0 0 := rw_of (by decide +kernel)
theorem r0_288 : Rw 0 288 291 3 67 293 0 0 := rw_of (by decide +kernel)
theorem r0_293 : Rw 0 293 295 2 11 5 0 0 := rw_of (by decide +kernel)
theorem r0_295 : Rw 0 295 298 3 62 310 0 0 := rw_of (by decide +kernel)
theorem r0_298 : Rw 0 298 299 1 14 3 0 0 := rw_of (by decide +kernel)
theorem r0_299 : Rw 0 299 300 1 1 (cd 0) 1 0 := rw_of (by decide +kernel)
theorem r0_300 : Rw 0 300 301 1 84 0 0 0 := rw_of (by decide +kernel)
theorem r0_301 : Rw 0 301 303 2 11 6 0 0 := rw_of (by decide +kernel)
theorem r0_303 : Rw 0 303 304 1 48 0 0 0 := rw_of (by decide +kernel)
theorem r0_304 : Rw 0 304 305 1 51 0 0 0 := rw_of (by decide +kernel)
theorem r0_305 : Rw 0 305 308 3 61 310 0 0 := rw_of (by decide +kernel)
theorem r0_310 : Rw 0 310 313 3 60 947 0 0 := rw_of (by decide +kernel)
theorem law4_sentence {B : eB} {n i : Int} {d : Nat} {M : Mm} {Q : Nat → eV → Mm → Prop} (hB : SB B n) (h0 : 0 ≤ i) (h1 : i ≤ n - 6) (hI : INV4 M i) (hk : ∀ M2, INV4 M2 (i + 6) → Wp B (d + 50) 0 23 [some (R 4096), some (R 0), some (R 739), some (R 769), some (I (i + 6)), none, none] [] M2 Q) : Wp B (d + 50) 0 257 [some (R 4096), some (R 0), some (R 739), some (R 769), some (I i), none, none] [] M Q := by
  obtain ⟨⟨hP, hT, hW, hQW, hg0, hg9⟩, hA, i9, i2, i5, i11⟩ := hI
  refine wk_al1 r0_257 (wk_al0 r0_258 (wk_il4 r0_259 (wk_c1 r0_261 (wk_iadd r0_262 (wk_saldf hB r0_263 ⟨by omega, by omega⟩ ?_)))))
  intro a1 b1
  refine wk_al3 r0_264 (wk_cs113_3 r0_265 rfl (lw4_sentence _ M (scf B (i + 1)) (M 0 1) (M 0 9) (M 0 5) (M 2 1) (fun k => M 755 k) hP (by omega) (by omega) rfl (bf_0_1 hP).1 (bf_0_1 hP).2 rfl (bf_0_9 hP).1 (bf_0_9 hP).2 rfl (bf_0_5 hP).1 (bf_0_5 hP).2 rfl (by have := bf_2_1 hP; have := bf_739_1 hP; omega) (bf_2_1 hP).2 (fun k a b => hA k a b)) (cqI ?_))
  rintro z1 M1 ⟨hP1, hF1, x0, x1, x2, x3, x4, ⟨w, wl, wu, hS, hz⟩⟩
  refine wk_is5 r0_268 rfl (wk_al2 r0_270 (wk_al0 r0_271 (wk_il4 r0_272 (wk_c1 r0_274 (wk_iadd r0_275 (wk_saldf hB r0_276 ⟨by omega, by omega⟩ ?_))))))
  intro a2 b2
  have hW1 : WS M1 := WS_sm (Sm.fr hF1 rfl) hW
  have hQ1 : QW M1 := QW_sm (Sm.fr hF1 rfl) hQW
  refine wk_cv2 r0_277 kc_739_126 rfl (m8126_739 _ M1 (scf B (i + 1)) (M1 739 27) (M1 739 29) (M1 739 13) (M1 739 1) (fun k => M 755 k) hP1 (by omega) (by omega) rfl (bf_739_27 hP1).1 (bf_739_27 hP1).2 rfl (bf_739_29 hP1).1 (bf_739_29 hP1).2 rfl (bf_739_13 hP1).1 (bf_739_13 hP1).2 rfl (bf_739_1 hP1).1 (bf_739_1 hP1).2 (fun k _ _ => hF1.at (ga_755 k) rfl) hW1 hQ1) (cqI ?_)
  rintro z2 M2 ⟨hP2, hF2, y0, y1, y2, y3, y4, y5⟩
  have hg2 := hF2.at g_below rfl
  have hg1 : True := trivial
  have v_0_1 := hF2.at g_0_1 rfl
  have v_0_9 := hF2.at g_0_9 rfl
  have u_2_1 := hF1.at g_2_1 rfl
  have v_2_1 := hF2.at g_2_1 rfl
  have v_0_5 := hF2.at g_0_5 rfl
  have u_0_11 := hF1.at g_0_11 rfl
  have v_0_11 := hF2.at g_0_11 rfl
  have u_739_27 := hF1.at g_739_27 rfl
  have u_739_13 := hF1.at g_739_13 rfl
  have u_739_1 := hF1.at g_739_1 rfl
  have v_739_1 := hF2.at g_739_1 rfl
  have u_739_29 := hF1.at g_739_29 rfl
  have u_739_21 := hF1.at g_739_21 rfl
  have v_739_21 := hF2.at g_739_21 rfl
  have hb := bf_0_1 hP
  have w0 : M1 739 27 = M 0 1 := by omega
  have w1 : M1 739 13 = M 0 9 := by omega
  have w2 : M1 739 1 = M 2 1 := by omega
  have w3 : M1 739 29 = M 0 5 := by omega
  rw [w0, w1, w2, w3] at y3
  have hO := SNR_one hS y3
  obtain ⟨o0, o1, o2, oz⟩ := hO
  have hA2 : TA (fun k => M2 1 k) (fun k => M2 755 k) (M2 0 1) := TA_mv hA (fun k => (hF2.at (ga_1 k) rfl).trans (hF1.at (ga_1 k) rfl)) (fun k => (hF2.at (ga_755 k) rfl).trans (hF1.at (ga_755 k) rfl)) (by omega)
  have hI2 : INV4 M2 (i + 6) := ⟨⟨hP2, by omega, y4, y5, by omega, by omega⟩, hA2, by omega, by omega, by omega, by omega⟩
  refine wk_is6 r0_280 rfl (wk_al2 r0_282 (wk_cv1 r0_283 kc_739_270 rfl (m8270_739 _ M2 (M2 739 0) hP2 rfl (bf_739_0 hP2).1 (bf_739_0 hP2).2) (cqI ?_)))
  rintro z3 M3 ⟨hP3, hF3, s0, s1, s2, s3⟩
  rw [s3]
  refine wk_il5 r0_286 (wk_iceq r0_288 ⟨by omega, by omega⟩ ⟨by omega, by omega⟩ ?_ ?_)
  · intro _
    refine wk_il5 r0_293 (wk_ifne r0_295 ⟨by omega, by omega⟩ ?_ ?_)
    · intro _
      exact wk_goto r0_310 (wk_inc4 r0_947 rfl (wk_goto r0_950 (wp_fg (le_s (le_s (le_s (le_s (le_s (le_n (le_n le_0))))))) (hk M2 hI2))))
    · intro q0
      have e7 : M2 769 0 = ((z2 % 18446744073709551616).toNat : Int) := (hF2.at (gr_769 (by decide) (by decide) _) rfl).trans (by rw [hz q0, oz q0])
      refine wk_al3 r0_298 (wk_c1 r0_299 (wk_lald r0_300 ar_769 (by decide) rfl (wk_il6 r0_301 (wk_i2l r0_303 ⟨by omega, by omega⟩ (wk_lcmp r0_304 (by omega) (by omega) ?_ ?_)))))
      · intro _
        exact wk_ifeq r0_305 ⟨by decide, by decide⟩ (fun _ => wk_goto r0_310 (wk_inc4 r0_947 rfl (wk_goto r0_950 (wp_fg (le_s (le_s (le_s (le_s (le_s (le_n (le_n le_0))))))) (hk M2 hI2))))) (fun q => absurd rfl q)
      · intro qn
        exfalso
        apply qn
        omega
  · intro h
    exfalso
    omega
theorem r0_313 : Rw 0 313 314 1 14 1 0 0 := rw_of (by decide +kernel)
theorem r0_314 : Rw 0 314 317 3 100 17 1 92 := rw_of (by decide +kernel)
theorem kc_0_17 : Kc 0 17 := kc_of (by decide) (by decide +kernel)
theorem r0_317 : Rw 0 317 318 1 53 0 0 0 := rw_of (by decide +kernel)
theorem r0_318 : Rw 0 318 319 1 14 2 0 0 := rw_of (by decide +kernel)
theorem r0_319 : Rw 0 319 322 3 100 69 1 95 := rw_of (by decide +kernel)
theorem kc_739_69 : Kc 739 69 := kc_of (by decide) (by decide +kernel)
theorem r0_322 : Rw 0 322 323 1 53 0 0 0 := rw_of (by decide +kernel)
theorem r0_323 : Rw 0 323 326 3 60 947 0 0 := rw_of (by decide +kernel)
theorem law4_fault {B : eB} {n i : Int} {d : Nat} {M : Mm} {Q : Nat → eV → Mm → Prop} (hB : SB B n) (h0 : 0 ≤ i) (h1 : i ≤ n - 6) (hI : INV4 M i) (hk : ∀ M2, INV4 M2 (i + 6) → Wp B (d + 50) 0 23 [some (R 4096), some (R 0), some (R 739), some (R 769), some (I (i + 6)), none, none] [] M2 Q) : Wp B (d + 50) 0 313 [some (R 4096), some (R 0), some (R 739), some (R 769), some (I i), none, none] [] M Q := by
  obtain ⟨⟨hP, hT, hW, hQW, hg0, hg9⟩, hA, i9, i2, i5, i11⟩ := hI
  refine wk_al1 r0_313 (wk_cv1 r0_314 kc_0_17 rfl (m7017_0 _ M (M 0 5) hP rfl (bf_0_5 hP).1 (bf_0_5 hP).2) (cqI ?_))
  rintro z1 M1 ⟨hP1, hF1, x0, x1, x2, x3⟩
  refine wk_popi r0_317 (wk_al2 r0_318 ?_)
  have hW1 : WS M1 := WS_sm (Sm.fr hF1 rfl) hW
  have hQ1 : QW M1 := QW_sm (Sm.fr hF1 rfl) hQW
  refine wk_cv1 r0_319 kc_739_69 rfl (m8069_739 _ M1 (M1 739 29) hP1 rfl (bf_739_29 hP1).1 (bf_739_29 hP1).2) (cqI ?_)
  rintro z2 M2 ⟨hP2, hF2, y0, y1, y2⟩
  have hg2 := hF2.at g_below rfl
  have hg1 := hF1.at g_below rfl
  have u_0_1 := hF1.at g_0_1 rfl
  have v_0_1 := hF2.at g_0_1 rfl
  have u_0_9 := hF1.at g_0_9 rfl
  have v_0_9 := hF2.at g_0_9 rfl
  have u_2_1 := hF1.at g_2_1 rfl
  have v_2_1 := hF2.at g_2_1 rfl
  have u_0_5 := hF1.at g_0_5 rfl
  have v_0_5 := hF2.at g_0_5 rfl
  have u_0_11 := hF1.at g_0_11 rfl
  have v_0_11 := hF2.at g_0_11 rfl
  have u_739_27 := hF1.at g_739_27 rfl
  have v_739_27 := hF2.at g_739_27 rfl
  have u_739_13 := hF1.at g_739_13 rfl
  have v_739_13 := hF2.at g_739_13 rfl
  have u_739_1 := hF1.at g_739_1 rfl
  have v_739_1 := hF2.at g_739_1 rfl
  have u_739_29 := hF1.at g_739_29 rfl
  have v_739_29 := hF2.at g_739_29 rfl
  have u_739_21 := hF1.at g_739_21 rfl
  have v_739_21 := hF2.at g_739_21 rfl
  have hb := bf_0_1 hP
  have hA2 : TA (fun k => M2 1 k) (fun k => M2 755 k) (M2 0 1) := TA_mv hA (fun k => (hF2.at (ga_1 k) rfl).trans (hF1.at (ga_1 k) rfl)) (fun k => (hF2.at (ga_755 k) rfl).trans (hF1.at (ga_755 k) rfl)) (by omega)
  have hI2 : INV4 M2 (i + 6) := ⟨⟨hP2, by omega, WS_sm (Sm.fr hF2 rfl) hW1, QW_sm (Sm.fr hF2 rfl) hQ1, by omega, by omega⟩, hA2, by omega, by omega, by omega, by omega⟩
  exact wk_popi r0_322 (wk_goto r0_323 (wk_inc4 r0_947 rfl (wk_goto r0_950 (wp_fg (le_s (le_s (le_s (le_s (le_s (le_s (le_s le_0))))))) (hk M2 hI2)))))
theorem r0_326 : Rw 0 326 327 1 14 1 0 0 := rw_of (by decide +kernel)
theorem r0_327 : Rw 0 327 328 1 14 0 0 0 := rw_of (by decide +kernel)
theorem r0_328 : Rw 0 328 330 2 11 4 0 0 := rw_of (by decide +kernel)
theorem r0_330 : Rw 0 330 331 1 1 (cd 1) 2 0 := rw_of (by decide +kernel)
theorem r0_331 : Rw 0 331 332 1 30 0 0 0 := rw_of (by decide +kernel)
theorem r0_332 : Rw 0 332 333 1 97 0 0 0 := rw_of (by decide +kernel)
theorem r0_333 : Rw 0 333 334 1 14 3 0 0 := rw_of (by decide +kernel)
theorem r0_334 : Rw 0 334 337 3 113 250 3 96 := rw_of (by decide +kernel)
theorem r0_337 : Rw 0 337 339 2 17 5 0 0 := rw_of (by decide +kernel)
theorem r0_339 : Rw 0 339 340 1 14 2 0 0 := rw_of (by decide +kernel)
theorem r0_340 : Rw 0 340 341 1 14 0 0 0 := rw_of (by decide +kernel)
theorem r0_341 : Rw 0 341 343 2 11 4 0 0 := rw_of (by decide +kernel)
theorem r0_343 : Rw 0 343 344 1 1 (cd 1) 2 0 := rw_of (by decide +kernel)
theorem r0_344 : Rw 0 344 345 1 30 0 0 0 := rw_of (by decide +kernel)
theorem r0_345 : Rw 0 345 346 1 97 0 0 0 := rw_of (by decide +kernel)
theorem r0_346 : Rw 0 346 349 3 100 61 2 98 := rw_of (by decide +kernel)
theorem kc_739_61 : Kc 739 61 := kc_of (by decide) (by decide +kernel)
theorem r0_349 : Rw 0 349 351 2 17 6 0 0 := rw_of (by decide +kernel)
theorem r0_351 : Rw 0 351 354 3 60 947 0 0 := rw_of (by decide +kernel)
theorem law4_count {B : eB} {n i : Int} {d : Nat} {M : Mm} {Q : Nat → eV → Mm → Prop} (hB : SB B n) (h0 : 0 ≤ i) (h1 : i ≤ n - 6) (hI : INV4 M i) (hk : ∀ M2, INV4 M2 (i + 6) → Wp B (d + 50) 0 23 [some (R 4096), some (R 0), some (R 739), some (R 769), some (I (i + 6)), none, none] [] M2 Q) : Wp B (d + 50) 0 326 [some (R 4096), some (R 0), some (R 739), some (R 769), some (I i), none, none] [] M Q := by
  obtain ⟨⟨hP, hT, hW, hQW, hg0, hg9⟩, hA, i9, i2, i5, i11⟩ := hI
  refine wk_al1 r0_326 (wk_al0 r0_327 (wk_il4 r0_328 (wk_c1 r0_330 (wk_iadd r0_331 (wk_saldf hB r0_332 ⟨by omega, by omega⟩ ?_)))))
  intro a1 b1
  refine wk_al3 r0_333 (wk_cs113_3 r0_334 rfl (lw_count _ M (scf B (i + 1)) hP (by omega) (by omega)) (cqI ?_))
  rintro z1 M1 ⟨hP1, hF1, x0, x1, x2, x3⟩
  refine wk_is5 r0_337 rfl (wk_al2 r0_339 (wk_al0 r0_340 (wk_il4 r0_341 (wk_c1 r0_343 (wk_iadd r0_344 (wk_saldf hB r0_345 ⟨by omega, by omega⟩ ?_))))))
  intro a2 b2
  have hW1 : WS M1 := WS_sm (Sm.fr hF1 rfl) hW
  have hQ1 : QW M1 := QW_sm (Sm.fr hF1 rfl) hQW
  refine wk_cv2 r0_346 kc_739_61 rfl (m61_739 _ M1 (scf B (i + 1)) hP1 (by omega) (by omega)) (cqI ?_)
  rintro z2 M2 ⟨hP2, hF2, y0, y1⟩
  have hg2 := hF2.at g_below rfl
  have hg1 : True := trivial
  have u_0_1 := hF1.at g_0_1 rfl
  have v_0_1 := hF2.at g_0_1 rfl
  have u_0_9 := hF1.at g_0_9 rfl
  have v_0_9 := hF2.at g_0_9 rfl
  have u_2_1 := hF1.at g_2_1 rfl
  have v_2_1 := hF2.at g_2_1 rfl
  have u_0_5 := hF1.at g_0_5 rfl
  have v_0_5 := hF2.at g_0_5 rfl
  have u_0_11 := hF1.at g_0_11 rfl
  have v_0_11 := hF2.at g_0_11 rfl
  have u_739_27 := hF1.at g_739_27 rfl
  have v_739_27 := hF2.at g_739_27 rfl
  have u_739_13 := hF1.at g_739_13 rfl
  have v_739_13 := hF2.at g_739_13 rfl
  have u_739_1 := hF1.at g_739_1 rfl
  have v_739_1 := hF2.at g_739_1 rfl
  have u_739_29 := hF1.at g_739_29 rfl
  have v_739_29 := hF2.at g_739_29 rfl
  have u_739_21 := hF1.at g_739_21 rfl
  have v_739_21 := hF2.at g_739_21 rfl
  have hb := bf_0_1 hP
  have hA2 : TA (fun k => M2 1 k) (fun k => M2 755 k) (M2 0 1) := TA_mv hA (fun k => (hF2.at (ga_1 k) rfl).trans (hF1.at (ga_1 k) rfl)) (fun k => (hF2.at (ga_755 k) rfl).trans (hF1.at (ga_755 k) rfl)) (by omega)
  have hI2 : INV4 M2 (i + 6) := ⟨⟨hP2, by omega, WS_sm (Sm.fr hF2 rfl) hW1, QW_sm (Sm.fr hF2 rfl) hQ1, by omega, by omega⟩, hA2, by omega, by omega, by omega, by omega⟩
  exact wk_is6 r0_349 rfl (wk_goto r0_351 (wk_inc4 r0_947 rfl (wk_goto r0_950 (wp_fg (le_s (le_s (le_s (le_s (le_s (le_n (le_n le_0))))))) (hk M2 hI2)))))
theorem r0_354 : Rw 0 354 355 1 14 1 0 0 := rw_of (by decide +kernel)
theorem r0_355 : Rw 0 355 356 1 14 0 0 0 := rw_of (by decide +kernel)
theorem r0_356 : Rw 0 356 358 2 11 4 0 0 := rw_of (by decide +kernel)
theorem r0_358 : Rw 0 358 359 1 1 (cd 1) 2 0 := rw_of (by decide +kernel)
theorem r0_359 : Rw 0 359 360 1 30 0 0 0 := rw_of (by decide +kernel)
theorem r0_360 : Rw 0 360 361 1 97 0 0 0 := rw_of (by decide +kernel)
theorem r0_361 : Rw 0 361 362 1 14 0 0 0 := rw_of (by decide +kernel)
theorem r0_362 : Rw 0 362 364 2 11 4 0 0 := rw_of (by decide +kernel)
theorem r0_364 : Rw 0 364 365 1 1 (cd 2) 3 0 := rw_of (by decide +kernel)
theorem r0_365 : Rw 0 365 366 1 30 0 0 0 := rw_of (by decide +kernel)
theorem r0_366 : Rw 0 366 367 1 97 0 0 0 := rw_of (by decide +kernel)
theorem r0_367 : Rw 0 367 368 1 14 3 0 0 := rw_of (by decide +kernel)
theorem r0_368 : Rw 0 368 371 3 113 256 4 99 := rw_of (by decide +kernel)
theorem r0_371 : Rw 0 371 373 2 17 5 0 0 := rw_of (by decide +kernel)
theorem r0_373 : Rw 0 373 374 1 14 2 0 0 := rw_of (by decide +kernel)
theorem r0_374 : Rw 0 374 375 1 14 0 0 0 := rw_of (by decide +kernel)
theorem r0_375 : Rw 0 375 377 2 11 4 0 0 := rw_of (by decide +kernel)
theorem r0_377 : Rw 0 377 378 1 1 (cd 1) 2 0 := rw_of (by decide +kernel)
theorem r0_378 : Rw 0 378 379 1 30 0 0 0 := rw_of (by decide +kernel)
theorem r0_379 : Rw 0 379 380 1 97 0 0 0 := rw_of (by decide +kernel)
theorem r0_380 : Rw 0 380 381 1 14 0 0 0 := rw_of (by decide +kernel)
theorem r0_381 : Rw 0 381 383 2 11 4 0 0 := rw_of (by decide +kernel)
theorem r0_383 : Rw 0 383 384 1 1 (cd 2) 3 0 := rw_of (by decide +kernel)
theorem r0_384 : Rw 0 384 385 1 30 0 0 0 := rw_of (by decide +kernel)
theorem r0_385 : Rw 0 385 386 1 97 0 0 0 := rw_of (by decide +kernel)
theorem r0_386 : Rw 0 386 389 3 100 110 3 102 := rw_of (by decide +kernel)
theorem kc_739_110 : Kc 739 110 := kc_of (by decide) (by decide +kernel)
theorem r0_389 : Rw 0 389 391 2 17 6 0 0 := rw_of (by decide +kernel)
theorem r0_391 : Rw 0 391 394 3 60 947 0 0 := rw_of (by decide +kernel)
theorem law4_may {B : eB} {n i : Int} {d : Nat} {M : Mm} {Q : Nat → eV → Mm → Prop} (hB : SB B n) (h0 : 0 ≤ i) (h1 : i ≤ n - 6) (hI : INV4 M i) (hk : ∀ M2, INV4 M2 (i + 6) → Wp B (d + 50) 0 23 [some (R 4096), some (R 0), some (R 739), some (R 769), some (I (i + 6)), none, none] [] M2 Q) : Wp B (d + 50) 0 354 [some (R 4096), some (R 0), some (R 739), some (R 769), some (I i), none, none] [] M Q := by
  obtain ⟨⟨hP, hT, hW, hQW, hg0, hg9⟩, hA, i9, i2, i5, i11⟩ := hI
  refine wk_al1 r0_354 (wk_al0 r0_355 (wk_il4 r0_356 (wk_c1 r0_358 (wk_iadd r0_359 (wk_saldf hB r0_360 ⟨by omega, by omega⟩ ?_)))))
  intro a1 b1
  refine wk_al0 r0_361 (wk_il4 r0_362 (wk_c1 r0_364 (wk_iadd r0_365 (wk_saldf hB r0_366 ⟨by omega, by omega⟩ ?_))))
  intro a2 b2
  refine wk_al3 r0_367 (wk_cs113_4 r0_368 rfl (lw_may _ M (scf B (i + 1)) (scf B (i + 2)) hP (by omega) (by omega) (by omega) (by omega)) (cqI ?_))
  rintro z1 M1 ⟨hP1, hF1, x0, x1, x2, x3⟩
  refine wk_is5 r0_371 rfl (wk_al2 r0_373 (wk_al0 r0_374 (wk_il4 r0_375 (wk_c1 r0_377 (wk_iadd r0_378 (wk_saldf hB r0_379 ⟨by omega, by omega⟩ ?_))))))
  intro a3 b3
  refine wk_al0 r0_380 (wk_il4 r0_381 (wk_c1 r0_383 (wk_iadd r0_384 (wk_saldf hB r0_385 ⟨by omega, by omega⟩ ?_))))
  intro a4 b4
  have hW1 : WS M1 := WS_sm (Sm.fr hF1 rfl) hW
  have hQ1 : QW M1 := QW_sm (Sm.fr hF1 rfl) hQW
  refine wk_cv3 r0_386 kc_739_110 rfl (m110_739 _ M1 (scf B (i + 1)) (scf B (i + 2)) hP1 (by omega) (by omega) (by omega) (by omega)) (cqI ?_)
  rintro z2 M2 ⟨hP2, hF2, y0, y1⟩
  have hg2 := hF2.at g_below rfl
  have hg1 : True := trivial
  have u_0_1 := hF1.at g_0_1 rfl
  have v_0_1 := hF2.at g_0_1 rfl
  have u_0_9 := hF1.at g_0_9 rfl
  have v_0_9 := hF2.at g_0_9 rfl
  have u_2_1 := hF1.at g_2_1 rfl
  have v_2_1 := hF2.at g_2_1 rfl
  have u_0_5 := hF1.at g_0_5 rfl
  have v_0_5 := hF2.at g_0_5 rfl
  have u_0_11 := hF1.at g_0_11 rfl
  have v_0_11 := hF2.at g_0_11 rfl
  have u_739_27 := hF1.at g_739_27 rfl
  have v_739_27 := hF2.at g_739_27 rfl
  have u_739_13 := hF1.at g_739_13 rfl
  have v_739_13 := hF2.at g_739_13 rfl
  have u_739_1 := hF1.at g_739_1 rfl
  have v_739_1 := hF2.at g_739_1 rfl
  have u_739_29 := hF1.at g_739_29 rfl
  have v_739_29 := hF2.at g_739_29 rfl
  have u_739_21 := hF1.at g_739_21 rfl
  have v_739_21 := hF2.at g_739_21 rfl
  have hb := bf_0_1 hP
  have hA2 : TA (fun k => M2 1 k) (fun k => M2 755 k) (M2 0 1) := TA_mv hA (fun k => (hF2.at (ga_1 k) rfl).trans (hF1.at (ga_1 k) rfl)) (fun k => (hF2.at (ga_755 k) rfl).trans (hF1.at (ga_755 k) rfl)) (by omega)
  have hI2 : INV4 M2 (i + 6) := ⟨⟨hP2, by omega, WS_sm (Sm.fr hF2 rfl) hW1, QW_sm (Sm.fr hF2 rfl) hQ1, by omega, by omega⟩, hA2, by omega, by omega, by omega, by omega⟩
  exact wk_is6 r0_389 rfl (wk_goto r0_391 (wk_inc4 r0_947 rfl (wk_goto r0_950 (wp_fg (le_s (le_s (le_s (le_s (le_s (le_n (le_n le_0))))))) (hk M2 hI2)))))
theorem r0_394 : Rw 0 394 395 1 14 1 0 0 := rw_of (by decide +kernel)
theorem r0_395 : Rw 0 395 396 1 14 0 0 0 := rw_of (by decide +kernel)
theorem r0_396 : Rw 0 396 398 2 11 4 0 0 := rw_of (by decide +kernel)
theorem r0_398 : Rw 0 398 399 1 1 (cd 1) 2 0 := rw_of (by decide +kernel)
theorem r0_399 : Rw 0 399 400 1 30 0 0 0 := rw_of (by decide +kernel)
theorem r0_400 : Rw 0 400 401 1 97 0 0 0 := rw_of (by decide +kernel)
theorem r0_401 : Rw 0 401 402 1 14 0 0 0 := rw_of (by decide +kernel)
theorem r0_402 : Rw 0 402 404 2 11 4 0 0 := rw_of (by decide +kernel)
theorem r0_404 : Rw 0 404 405 1 1 (cd 2) 3 0 := rw_of (by decide +kernel)
theorem r0_405 : Rw 0 405 406 1 30 0 0 0 := rw_of (by decide +kernel)
theorem r0_406 : Rw 0 406 407 1 97 0 0 0 := rw_of (by decide +kernel)
theorem r0_407 : Rw 0 407 408 1 14 3 0 0 := rw_of (by decide +kernel)
theorem r0_408 : Rw 0 408 411 3 113 260 4 103 := rw_of (by decide +kernel)
theorem r0_411 : Rw 0 411 413 2 17 5 0 0 := rw_of (by decide +kernel)
theorem r0_413 : Rw 0 413 414 1 14 2 0 0 := rw_of (by decide +kernel)
theorem r0_414 : Rw 0 414 415 1 14 0 0 0 := rw_of (by decide +kernel)
theorem r0_415 : Rw 0 415 417 2 11 4 0 0 := rw_of (by decide +kernel)
theorem r0_417 : Rw 0 417 418 1 1 (cd 1) 2 0 := rw_of (by decide +kernel)
theorem r0_418 : Rw 0 418 419 1 30 0 0 0 := rw_of (by decide +kernel)
theorem r0_419 : Rw 0 419 420 1 97 0 0 0 := rw_of (by decide +kernel)
theorem r0_420 : Rw 0 420 421 1 14 0 0 0 := rw_of (by decide +kernel)
theorem r0_421 : Rw 0 421 423 2 11 4 0 0 := rw_of (by decide +kernel)
theorem r0_423 : Rw 0 423 424 1 1 (cd 2) 3 0 := rw_of (by decide +kernel)
theorem r0_424 : Rw 0 424 425 1 30 0 0 0 := rw_of (by decide +kernel)
theorem r0_425 : Rw 0 425 426 1 97 0 0 0 := rw_of (by decide +kernel)
theorem r0_426 : Rw 0 426 429 3 100 124 3 105 := rw_of (by decide +kernel)
theorem kc_739_124 : Kc 739 124 := kc_of (by decide) (by decide +kernel)
theorem r0_429 : Rw 0 429 431 2 17 6 0 0 := rw_of (by decide +kernel)
theorem r0_431 : Rw 0 431 434 3 60 947 0 0 := rw_of (by decide +kernel)
theorem law4_says {B : eB} {n i : Int} {d : Nat} {M : Mm} {Q : Nat → eV → Mm → Prop} (hB : SB B n) (h0 : 0 ≤ i) (h1 : i ≤ n - 6) (hI : INV4 M i) (hk : ∀ M2, INV4 M2 (i + 6) → Wp B (d + 50) 0 23 [some (R 4096), some (R 0), some (R 739), some (R 769), some (I (i + 6)), none, none] [] M2 Q) : Wp B (d + 50) 0 394 [some (R 4096), some (R 0), some (R 739), some (R 769), some (I i), none, none] [] M Q := by
  obtain ⟨⟨hP, hT, hW, hQW, hg0, hg9⟩, hA, i9, i2, i5, i11⟩ := hI
  refine wk_al1 r0_394 (wk_al0 r0_395 (wk_il4 r0_396 (wk_c1 r0_398 (wk_iadd r0_399 (wk_saldf hB r0_400 ⟨by omega, by omega⟩ ?_)))))
  intro a1 b1
  refine wk_al0 r0_401 (wk_il4 r0_402 (wk_c1 r0_404 (wk_iadd r0_405 (wk_saldf hB r0_406 ⟨by omega, by omega⟩ ?_))))
  intro a2 b2
  refine wk_al3 r0_407 (wk_cs113_4 r0_408 rfl (lw_says _ M (scf B (i + 1)) (scf B (i + 2)) hP (by omega) (by omega) (by omega) (by omega)) (cqI ?_))
  rintro z1 M1 ⟨hP1, hF1, x0, x1, x2, x3⟩
  refine wk_is5 r0_411 rfl (wk_al2 r0_413 (wk_al0 r0_414 (wk_il4 r0_415 (wk_c1 r0_417 (wk_iadd r0_418 (wk_saldf hB r0_419 ⟨by omega, by omega⟩ ?_))))))
  intro a3 b3
  refine wk_al0 r0_420 (wk_il4 r0_421 (wk_c1 r0_423 (wk_iadd r0_424 (wk_saldf hB r0_425 ⟨by omega, by omega⟩ ?_))))
  intro a4 b4
  have hW1 : WS M1 := WS_sm (Sm.fr hF1 rfl) hW
  have hQ1 : QW M1 := QW_sm (Sm.fr hF1 rfl) hQW
  refine wk_cv3 r0_426 kc_739_124 rfl (m9124_739 _ M1 (scf B (i + 1)) (scf B (i + 2)) (M1 739 13) hP1 (by omega) (by omega) (by omega) (by omega) rfl (bf_739_13 hP1).1 (bf_739_13 hP1).2 hW1) (cqI ?_)
  rintro z2 M2 ⟨hP2, hF2, y0, y1, y2⟩
  have hg2 := hF2.at g_below rfl
  have hg1 : True := trivial
  have u_0_1 := hF1.at g_0_1 rfl
  have v_0_1 := hF2.at g_0_1 rfl
  have u_0_9 := hF1.at g_0_9 rfl
  have v_0_9 := hF2.at g_0_9 rfl
  have u_2_1 := hF1.at g_2_1 rfl
  have v_2_1 := hF2.at g_2_1 rfl
  have u_0_5 := hF1.at g_0_5 rfl
  have v_0_5 := hF2.at g_0_5 rfl
  have u_0_11 := hF1.at g_0_11 rfl
  have v_0_11 := hF2.at g_0_11 rfl
  have u_739_27 := hF1.at g_739_27 rfl
  have v_739_27 := hF2.at g_739_27 rfl
  have u_739_13 := hF1.at g_739_13 rfl
  have v_739_13 := hF2.at g_739_13 rfl
  have u_739_1 := hF1.at g_739_1 rfl
  have v_739_1 := hF2.at g_739_1 rfl
  have u_739_29 := hF1.at g_739_29 rfl
  have v_739_29 := hF2.at g_739_29 rfl
  have u_739_21 := hF1.at g_739_21 rfl
  have v_739_21 := hF2.at g_739_21 rfl
  have hb := bf_0_1 hP
  have hA2 : TA (fun k => M2 1 k) (fun k => M2 755 k) (M2 0 1) := TA_mv hA (fun k => (hF2.at (ga_1 k) rfl).trans (hF1.at (ga_1 k) rfl)) (fun k => (hF2.at (ga_755 k) rfl).trans (hF1.at (ga_755 k) rfl)) (by omega)
  have hI2 : INV4 M2 (i + 6) := ⟨⟨hP2, by omega, y2, QW_sm (Sm.fr hF2 rfl) hQ1, by omega, by omega⟩, hA2, by omega, by omega, by omega, by omega⟩
  exact wk_is6 r0_429 rfl (wk_goto r0_431 (wk_inc4 r0_947 rfl (wk_goto r0_950 (wp_fg (le_s (le_s (le_s (le_s (le_s (le_n (le_n le_0))))))) (hk M2 hI2)))))
theorem r0_434 : Rw 0 434 435 1 14 1 0 0 := rw_of (by decide +kernel)
theorem r0_435 : Rw 0 435 436 1 14 0 0 0 := rw_of (by decide +kernel)
theorem r0_436 : Rw 0 436 438 2 11 4 0 0 := rw_of (by decide +kernel)
theorem r0_438 : Rw 0 438 439 1 1 (cd 1) 2 0 := rw_of (by decide +kernel)
theorem r0_439 : Rw 0 439 440 1 30 0 0 0 := rw_of (by decide +kernel)
theorem r0_440 : Rw 0 440 441 1 97 0 0 0 := rw_of (by decide +kernel)
theorem r0_441 : Rw 0 441 442 1 14 0 0 0 := rw_of (by decide +kernel)
theorem r0_442 : Rw 0 442 444 2 11 4 0 0 := rw_of (by decide +kernel)
theorem r0_444 : Rw 0 444 445 1 1 (cd 2) 3 0 := rw_of (by decide +kernel)
theorem r0_445 : Rw 0 445 446 1 30 0 0 0 := rw_of (by decide +kernel)
theorem r0_446 : Rw 0 446 447 1 97 0 0 0 := rw_of (by decide +kernel)
theorem r0_447 : Rw 0 447 448 1 14 0 0 0 := rw_of (by decide +kernel)
theorem r0_448 : Rw 0 448 450 2 11 4 0 0 := rw_of (by decide +kernel)
theorem r0_450 : Rw 0 450 451 1 1 (cd 3) 4 0 := rw_of (by decide +kernel)
theorem r0_451 : Rw 0 451 452 1 30 0 0 0 := rw_of (by decide +kernel)
theorem r0_452 : Rw 0 452 453 1 97 0 0 0 := rw_of (by decide +kernel)
theorem r0_453 : Rw 0 453 454 1 14 3 0 0 := rw_of (by decide +kernel)
theorem r0_454 : Rw 0 454 457 3 113 247 5 106 := rw_of (by decide +kernel)
theorem r0_457 : Rw 0 457 459 2 17 5 0 0 := rw_of (by decide +kernel)
theorem r0_459 : Rw 0 459 460 1 14 2 0 0 := rw_of (by decide +kernel)
theorem r0_460 : Rw 0 460 461 1 14 0 0 0 := rw_of (by decide +kernel)
theorem r0_461 : Rw 0 461 463 2 11 4 0 0 := rw_of (by decide +kernel)
theorem r0_463 : Rw 0 463 464 1 1 (cd 1) 2 0 := rw_of (by decide +kernel)
theorem r0_464 : Rw 0 464 465 1 30 0 0 0 := rw_of (by decide +kernel)
theorem r0_465 : Rw 0 465 466 1 97 0 0 0 := rw_of (by decide +kernel)
theorem r0_466 : Rw 0 466 467 1 14 0 0 0 := rw_of (by decide +kernel)
theorem r0_467 : Rw 0 467 469 2 11 4 0 0 := rw_of (by decide +kernel)
theorem r0_469 : Rw 0 469 470 1 1 (cd 2) 3 0 := rw_of (by decide +kernel)
theorem r0_470 : Rw 0 470 471 1 30 0 0 0 := rw_of (by decide +kernel)
theorem r0_471 : Rw 0 471 472 1 97 0 0 0 := rw_of (by decide +kernel)
theorem r0_472 : Rw 0 472 473 1 14 0 0 0 := rw_of (by decide +kernel)
theorem r0_473 : Rw 0 473 475 2 11 4 0 0 := rw_of (by decide +kernel)
theorem r0_475 : Rw 0 475 476 1 1 (cd 3) 4 0 := rw_of (by decide +kernel)
theorem r0_476 : Rw 0 476 477 1 30 0 0 0 := rw_of (by decide +kernel)
theorem r0_477 : Rw 0 477 478 1 97 0 0 0 := rw_of (by decide +kernel)
theorem r0_478 : Rw 0 478 481 3 100 46 4 109 := rw_of (by decide +kernel)
theorem kc_739_46 : Kc 739 46 := kc_of (by decide) (by decide +kernel)
theorem r0_481 : Rw 0 481 483 2 17 6 0 0 := rw_of (by decide +kernel)
theorem r0_483 : Rw 0 483 486 3 60 947 0 0 := rw_of (by decide +kernel)
theorem law4_answers {B : eB} {n i : Int} {d : Nat} {M : Mm} {Q : Nat → eV → Mm → Prop} (hB : SB B n) (h0 : 0 ≤ i) (h1 : i ≤ n - 6) (hI : INV4 M i) (hk : ∀ M2, INV4 M2 (i + 6) → Wp B (d + 50) 0 23 [some (R 4096), some (R 0), some (R 739), some (R 769), some (I (i + 6)), none, none] [] M2 Q) : Wp B (d + 50) 0 434 [some (R 4096), some (R 0), some (R 739), some (R 769), some (I i), none, none] [] M Q := by
  obtain ⟨⟨hP, hT, hW, hQW, hg0, hg9⟩, hA, i9, i2, i5, i11⟩ := hI
  refine wk_al1 r0_434 (wk_al0 r0_435 (wk_il4 r0_436 (wk_c1 r0_438 (wk_iadd r0_439 (wk_saldf hB r0_440 ⟨by omega, by omega⟩ ?_)))))
  intro a1 b1
  refine wk_al0 r0_441 (wk_il4 r0_442 (wk_c1 r0_444 (wk_iadd r0_445 (wk_saldf hB r0_446 ⟨by omega, by omega⟩ ?_))))
  intro a2 b2
  refine wk_al0 r0_447 (wk_il4 r0_448 (wk_c1 r0_450 (wk_iadd r0_451 (wk_saldf hB r0_452 ⟨by omega, by omega⟩ ?_))))
  intro a3 b3
  refine wk_al3 r0_453 (wk_cs113_5 r0_454 rfl (lw_answers _ M (scf B (i + 1)) (scf B (i + 2)) (scf B (i + 3)) hP (by omega) (by omega) (by omega) (by omega) (by omega) (by omega)) (cqI ?_))
  rintro z1 M1 ⟨hP1, hF1, x0, x1, x2, x3⟩
  refine wk_is5 r0_457 rfl (wk_al2 r0_459 (wk_al0 r0_460 (wk_il4 r0_461 (wk_c1 r0_463 (wk_iadd r0_464 (wk_saldf hB r0_465 ⟨by omega, by omega⟩ ?_))))))
  intro a4 b4
  refine wk_al0 r0_466 (wk_il4 r0_467 (wk_c1 r0_469 (wk_iadd r0_470 (wk_saldf hB r0_471 ⟨by omega, by omega⟩ ?_))))
  intro a5 b5
  refine wk_al0 r0_472 (wk_il4 r0_473 (wk_c1 r0_475 (wk_iadd r0_476 (wk_saldf hB r0_477 ⟨by omega, by omega⟩ ?_))))
  intro a6 b6
  have hW1 : WS M1 := WS_sm (Sm.fr hF1 rfl) hW
  have hQ1 : QW M1 := QW_sm (Sm.fr hF1 rfl) hQW
  refine wk_cv4 r0_478 kc_739_46 rfl (m9046_739 _ M1 (scf B (i + 1)) (scf B (i + 2)) (scf B (i + 3)) (M1 739 13) hP1 (by omega) (by omega) (by omega) (by omega) (by omega) (by omega) rfl (bf_739_13 hP1).1 (bf_739_13 hP1).2 hW1) (cqI ?_)
  rintro z2 M2 ⟨hP2, hF2, y0, y1, y2⟩
  have hg2 := hF2.at g_below rfl
  have hg1 : True := trivial
  have u_0_1 := hF1.at g_0_1 rfl
  have v_0_1 := hF2.at g_0_1 rfl
  have u_0_9 := hF1.at g_0_9 rfl
  have v_0_9 := hF2.at g_0_9 rfl
  have u_2_1 := hF1.at g_2_1 rfl
  have v_2_1 := hF2.at g_2_1 rfl
  have u_0_5 := hF1.at g_0_5 rfl
  have v_0_5 := hF2.at g_0_5 rfl
  have u_0_11 := hF1.at g_0_11 rfl
  have v_0_11 := hF2.at g_0_11 rfl
  have u_739_27 := hF1.at g_739_27 rfl
  have v_739_27 := hF2.at g_739_27 rfl
  have u_739_13 := hF1.at g_739_13 rfl
  have v_739_13 := hF2.at g_739_13 rfl
  have u_739_1 := hF1.at g_739_1 rfl
  have v_739_1 := hF2.at g_739_1 rfl
  have u_739_29 := hF1.at g_739_29 rfl
  have v_739_29 := hF2.at g_739_29 rfl
  have u_739_21 := hF1.at g_739_21 rfl
  have v_739_21 := hF2.at g_739_21 rfl
  have hb := bf_0_1 hP
  have hA2 : TA (fun k => M2 1 k) (fun k => M2 755 k) (M2 0 1) := TA_mv hA (fun k => (hF2.at (ga_1 k) rfl).trans (hF1.at (ga_1 k) rfl)) (fun k => (hF2.at (ga_755 k) rfl).trans (hF1.at (ga_755 k) rfl)) (by omega)
  have hI2 : INV4 M2 (i + 6) := ⟨⟨hP2, by omega, y2, QW_sm (Sm.fr hF2 rfl) hQ1, by omega, by omega⟩, hA2, by omega, by omega, by omega, by omega⟩
  exact wk_is6 r0_481 rfl (wk_goto r0_483 (wk_inc4 r0_947 rfl (wk_goto r0_950 (wp_fg (le_s (le_s (le_s (le_s (le_s (le_n (le_n le_0))))))) (hk M2 hI2)))))
theorem r0_486 : Rw 0 486 487 1 14 1 0 0 := rw_of (by decide +kernel)
theorem r0_487 : Rw 0 487 490 3 100 12 1 110 := rw_of (by decide +kernel)
theorem kc_0_12 : Kc 0 12 := kc_of (by decide) (by decide +kernel)
theorem r0_490 : Rw 0 490 491 1 53 0 0 0 := rw_of (by decide +kernel)
theorem r0_491 : Rw 0 491 492 1 14 2 0 0 := rw_of (by decide +kernel)
theorem r0_492 : Rw 0 492 495 3 100 49 1 113 := rw_of (by decide +kernel)
theorem kc_739_49 : Kc 739 49 := kc_of (by decide) (by decide +kernel)
theorem r0_495 : Rw 0 495 496 1 53 0 0 0 := rw_of (by decide +kernel)
theorem r0_496 : Rw 0 496 499 3 60 947 0 0 := rw_of (by decide +kernel)
theorem law4_back {B : eB} {n i : Int} {d : Nat} {M : Mm} {Q : Nat → eV → Mm → Prop} (hB : SB B n) (h0 : 0 ≤ i) (h1 : i ≤ n - 6) (hI : INV4 M i) (hk : ∀ M2, INV4 M2 (i + 6) → Wp B (d + 50) 0 23 [some (R 4096), some (R 0), some (R 739), some (R 769), some (I (i + 6)), none, none] [] M2 Q) : Wp B (d + 50) 0 486 [some (R 4096), some (R 0), some (R 739), some (R 769), some (I i), none, none] [] M Q := by
  obtain ⟨⟨hP, hT, hW, hQW, hg0, hg9⟩, hA, i9, i2, i5, i11⟩ := hI
  refine wk_al1 r0_486 (wk_cv1 r0_487 kc_0_12 rfl (m12_0 _ M  hP ) (cqI ?_))
  rintro z1 M1 ⟨hP1, hF1, x0, x1⟩
  refine wk_popi r0_490 (wk_al2 r0_491 ?_)
  have hW1 : WS M1 := WS_sm (Sm.fr hF1 rfl) hW
  have hQ1 : QW M1 := QW_sm (Sm.fr hF1 rfl) hQW
  refine wk_cv1 r0_492 kc_739_49 rfl (m49_739 _ M1  hP1 ) (cqI ?_)
  rintro z2 M2 ⟨hP2, hF2, y0, y1⟩
  have hg2 := hF2.at g_below rfl
  have hg1 := hF1.at g_below rfl
  have u_0_1 := hF1.at g_0_1 rfl
  have v_0_1 := hF2.at g_0_1 rfl
  have u_0_9 := hF1.at g_0_9 rfl
  have v_0_9 := hF2.at g_0_9 rfl
  have u_2_1 := hF1.at g_2_1 rfl
  have v_2_1 := hF2.at g_2_1 rfl
  have u_0_5 := hF1.at g_0_5 rfl
  have v_0_5 := hF2.at g_0_5 rfl
  have u_0_11 := hF1.at g_0_11 rfl
  have v_0_11 := hF2.at g_0_11 rfl
  have u_739_27 := hF1.at g_739_27 rfl
  have v_739_27 := hF2.at g_739_27 rfl
  have u_739_13 := hF1.at g_739_13 rfl
  have v_739_13 := hF2.at g_739_13 rfl
  have u_739_1 := hF1.at g_739_1 rfl
  have v_739_1 := hF2.at g_739_1 rfl
  have u_739_29 := hF1.at g_739_29 rfl
  have v_739_29 := hF2.at g_739_29 rfl
  have u_739_21 := hF1.at g_739_21 rfl
  have v_739_21 := hF2.at g_739_21 rfl
  have hb := bf_0_1 hP
  have hA2 : TA (fun k => M2 1 k) (fun k => M2 755 k) (M2 0 1) := TA_mv hA (fun k => (hF2.at (ga_1 k) rfl).trans (hF1.at (ga_1 k) rfl)) (fun k => (hF2.at (ga_755 k) rfl).trans (hF1.at (ga_755 k) rfl)) (by omega)
  have hI2 : INV4 M2 (i + 6) := ⟨⟨hP2, by omega, WS_sm (Sm.fr hF2 rfl) hW1, QW_sm (Sm.fr hF2 rfl) hQ1, by omega, by omega⟩, hA2, by omega, by omega, by omega, by omega⟩
  exact wk_popi r0_495 (wk_goto r0_496 (wk_inc4 r0_947 rfl (wk_goto r0_950 (wp_fg (le_s (le_s (le_s (le_s (le_s (le_s (le_s le_0))))))) (hk M2 hI2)))))
theorem r0_499 : Rw 0 499 500 1 14 1 0 0 := rw_of (by decide +kernel)
theorem r0_500 : Rw 0 500 501 1 14 0 0 0 := rw_of (by decide +kernel)
theorem r0_501 : Rw 0 501 503 2 11 4 0 0 := rw_of (by decide +kernel)
theorem r0_503 : Rw 0 503 504 1 1 (cd 1) 2 0 := rw_of (by decide +kernel)
theorem r0_504 : Rw 0 504 505 1 30 0 0 0 := rw_of (by decide +kernel)
theorem r0_505 : Rw 0 505 506 1 97 0 0 0 := rw_of (by decide +kernel)
theorem r0_506 : Rw 0 506 507 1 14 3 0 0 := rw_of (by decide +kernel)
theorem r0_507 : Rw 0 507 510 3 113 264 3 114 := rw_of (by decide +kernel)
theorem r0_510 : Rw 0 510 512 2 17 5 0 0 := rw_of (by decide +kernel)
theorem r0_512 : Rw 0 512 513 1 14 2 0 0 := rw_of (by decide +kernel)
theorem r0_513 : Rw 0 513 514 1 14 0 0 0 := rw_of (by decide +kernel)
theorem r0_514 : Rw 0 514 516 2 11 4 0 0 := rw_of (by decide +kernel)
theorem r0_516 : Rw 0 516 517 1 1 (cd 1) 2 0 := rw_of (by decide +kernel)
theorem r0_517 : Rw 0 517 518 1 30 0 0 0 := rw_of (by decide +kernel)
theorem r0_518 : Rw 0 518 519 1 97 0 0 0 := rw_of (by decide +kernel)
theorem r0_519 : Rw 0 519 522 3 100 135 2 116 := rw_of (by decide +kernel)
theorem kc_739_135 : Kc 739 135 := kc_of (by decide) (by decide +kernel)
theorem r0_522 : Rw 0 522 524 2 17 6 0 0 := rw_of (by decide +kernel)
theorem r0_524 : Rw 0 524 527 3 60 947 0 0 := rw_of (by decide +kernel)
theorem law4_worlds {B : eB} {n i : Int} {d : Nat} {M : Mm} {Q : Nat → eV → Mm → Prop} (hB : SB B n) (h0 : 0 ≤ i) (h1 : i ≤ n - 6) (hI : INV4 M i) (hk : ∀ M2, INV4 M2 (i + 6) → Wp B (d + 50) 0 23 [some (R 4096), some (R 0), some (R 739), some (R 769), some (I (i + 6)), none, none] [] M2 Q) : Wp B (d + 50) 0 499 [some (R 4096), some (R 0), some (R 739), some (R 769), some (I i), none, none] [] M Q := by
  obtain ⟨⟨hP, hT, hW, hQW, hg0, hg9⟩, hA, i9, i2, i5, i11⟩ := hI
  refine wk_al1 r0_499 (wk_al0 r0_500 (wk_il4 r0_501 (wk_c1 r0_503 (wk_iadd r0_504 (wk_saldf hB r0_505 ⟨by omega, by omega⟩ ?_)))))
  intro a1 b1
  refine wk_al3 r0_506 (wk_cs113_3 r0_507 rfl (lw_worlds _ M (scf B (i + 1)) hP (by omega) (by omega)) (cqI ?_))
  rintro z1 M1 ⟨hP1, hF1, x0, x1, x2, x3⟩
  refine wk_is5 r0_510 rfl (wk_al2 r0_512 (wk_al0 r0_513 (wk_il4 r0_514 (wk_c1 r0_516 (wk_iadd r0_517 (wk_saldf hB r0_518 ⟨by omega, by omega⟩ ?_))))))
  intro a2 b2
  have hW1 : WS M1 := WS_sm (Sm.fr hF1 rfl) hW
  have hQ1 : QW M1 := QW_sm (Sm.fr hF1 rfl) hQW
  refine wk_cv2 r0_519 kc_739_135 rfl (m135_739 _ M1 (scf B (i + 1)) hP1 (by omega) (by omega)) (cqI ?_)
  rintro z2 M2 ⟨hP2, hF2, y0, y1⟩
  have hg2 := hF2.at g_below rfl
  have hg1 : True := trivial
  have u_0_1 := hF1.at g_0_1 rfl
  have v_0_1 := hF2.at g_0_1 rfl
  have u_0_9 := hF1.at g_0_9 rfl
  have v_0_9 := hF2.at g_0_9 rfl
  have u_2_1 := hF1.at g_2_1 rfl
  have v_2_1 := hF2.at g_2_1 rfl
  have u_0_5 := hF1.at g_0_5 rfl
  have v_0_5 := hF2.at g_0_5 rfl
  have u_0_11 := hF1.at g_0_11 rfl
  have v_0_11 := hF2.at g_0_11 rfl
  have u_739_27 := hF1.at g_739_27 rfl
  have v_739_27 := hF2.at g_739_27 rfl
  have u_739_13 := hF1.at g_739_13 rfl
  have v_739_13 := hF2.at g_739_13 rfl
  have u_739_1 := hF1.at g_739_1 rfl
  have v_739_1 := hF2.at g_739_1 rfl
  have u_739_29 := hF1.at g_739_29 rfl
  have v_739_29 := hF2.at g_739_29 rfl
  have u_739_21 := hF1.at g_739_21 rfl
  have v_739_21 := hF2.at g_739_21 rfl
  have hb := bf_0_1 hP
  have hA2 : TA (fun k => M2 1 k) (fun k => M2 755 k) (M2 0 1) := TA_mv hA (fun k => (hF2.at (ga_1 k) rfl).trans (hF1.at (ga_1 k) rfl)) (fun k => (hF2.at (ga_755 k) rfl).trans (hF1.at (ga_755 k) rfl)) (by omega)
  have hI2 : INV4 M2 (i + 6) := ⟨⟨hP2, by omega, WS_sm (Sm.fr hF2 rfl) hW1, QW_sm (Sm.fr hF2 rfl) hQ1, by omega, by omega⟩, hA2, by omega, by omega, by omega, by omega⟩
  exact wk_is6 r0_522 rfl (wk_goto r0_524 (wk_inc4 r0_947 rfl (wk_goto r0_950 (wp_fg (le_s (le_s (le_s (le_s (le_s (le_n (le_n le_0))))))) (hk M2 hI2)))))
theorem r0_527 : Rw 0 527 528 1 14 1 0 0 := rw_of (by decide +kernel)
theorem r0_528 : Rw 0 528 529 1 14 0 0 0 := rw_of (by decide +kernel)
theorem r0_529 : Rw 0 529 531 2 11 4 0 0 := rw_of (by decide +kernel)
theorem r0_531 : Rw 0 531 532 1 1 (cd 1) 2 0 := rw_of (by decide +kernel)
theorem r0_532 : Rw 0 532 533 1 30 0 0 0 := rw_of (by decide +kernel)
theorem r0_533 : Rw 0 533 534 1 97 0 0 0 := rw_of (by decide +kernel)
theorem r0_534 : Rw 0 534 535 1 14 0 0 0 := rw_of (by decide +kernel)
theorem r0_535 : Rw 0 535 537 2 11 4 0 0 := rw_of (by decide +kernel)
theorem r0_537 : Rw 0 537 538 1 1 (cd 2) 3 0 := rw_of (by decide +kernel)
theorem r0_538 : Rw 0 538 539 1 30 0 0 0 := rw_of (by decide +kernel)
theorem r0_539 : Rw 0 539 540 1 97 0 0 0 := rw_of (by decide +kernel)
theorem r0_540 : Rw 0 540 541 1 14 3 0 0 := rw_of (by decide +kernel)
theorem r0_541 : Rw 0 541 544 3 113 263 4 117 := rw_of (by decide +kernel)
theorem r0_544 : Rw 0 544 546 2 17 5 0 0 := rw_of (by decide +kernel)
theorem r0_546 : Rw 0 546 547 1 14 2 0 0 := rw_of (by decide +kernel)
theorem r0_547 : Rw 0 547 548 1 14 0 0 0 := rw_of (by decide +kernel)
theorem r0_548 : Rw 0 548 550 2 11 4 0 0 := rw_of (by decide +kernel)
theorem r0_550 : Rw 0 550 551 1 1 (cd 1) 2 0 := rw_of (by decide +kernel)
theorem r0_551 : Rw 0 551 552 1 30 0 0 0 := rw_of (by decide +kernel)
theorem r0_552 : Rw 0 552 553 1 97 0 0 0 := rw_of (by decide +kernel)
theorem r0_553 : Rw 0 553 554 1 14 0 0 0 := rw_of (by decide +kernel)
theorem r0_554 : Rw 0 554 556 2 11 4 0 0 := rw_of (by decide +kernel)
theorem r0_556 : Rw 0 556 557 1 1 (cd 2) 3 0 := rw_of (by decide +kernel)
theorem r0_557 : Rw 0 557 558 1 30 0 0 0 := rw_of (by decide +kernel)
theorem r0_558 : Rw 0 558 559 1 97 0 0 0 := rw_of (by decide +kernel)
theorem r0_559 : Rw 0 559 562 3 100 134 3 119 := rw_of (by decide +kernel)
theorem kc_739_134 : Kc 739 134 := kc_of (by decide) (by decide +kernel)
theorem r0_562 : Rw 0 562 564 2 17 6 0 0 := rw_of (by decide +kernel)
theorem r0_564 : Rw 0 564 567 3 60 947 0 0 := rw_of (by decide +kernel)
theorem law4_world {B : eB} {n i : Int} {d : Nat} {M : Mm} {Q : Nat → eV → Mm → Prop} (hB : SB B n) (h0 : 0 ≤ i) (h1 : i ≤ n - 6) (hI : INV4 M i) (hk : ∀ M2, INV4 M2 (i + 6) → Wp B (d + 50) 0 23 [some (R 4096), some (R 0), some (R 739), some (R 769), some (I (i + 6)), none, none] [] M2 Q) : Wp B (d + 50) 0 527 [some (R 4096), some (R 0), some (R 739), some (R 769), some (I i), none, none] [] M Q := by
  obtain ⟨⟨hP, hT, hW, hQW, hg0, hg9⟩, hA, i9, i2, i5, i11⟩ := hI
  refine wk_al1 r0_527 (wk_al0 r0_528 (wk_il4 r0_529 (wk_c1 r0_531 (wk_iadd r0_532 (wk_saldf hB r0_533 ⟨by omega, by omega⟩ ?_)))))
  intro a1 b1
  refine wk_al0 r0_534 (wk_il4 r0_535 (wk_c1 r0_537 (wk_iadd r0_538 (wk_saldf hB r0_539 ⟨by omega, by omega⟩ ?_))))
  intro a2 b2
  refine wk_al3 r0_540 (wk_cs113_4 r0_541 rfl (lw_world _ M (scf B (i + 1)) (scf B (i + 2)) hP (by omega) (by omega) (by omega) (by omega)) (cqI ?_))
  rintro z1 M1 ⟨hP1, hF1, x0, x1, x2, x3⟩
  refine wk_is5 r0_544 rfl (wk_al2 r0_546 (wk_al0 r0_547 (wk_il4 r0_548 (wk_c1 r0_550 (wk_iadd r0_551 (wk_saldf hB r0_552 ⟨by omega, by omega⟩ ?_))))))
  intro a3 b3
  refine wk_al0 r0_553 (wk_il4 r0_554 (wk_c1 r0_556 (wk_iadd r0_557 (wk_saldf hB r0_558 ⟨by omega, by omega⟩ ?_))))
  intro a4 b4
  have hW1 : WS M1 := WS_sm (Sm.fr hF1 rfl) hW
  have hQ1 : QW M1 := QW_sm (Sm.fr hF1 rfl) hQW
  refine wk_cv3 r0_559 kc_739_134 rfl (m134_739 _ M1 (scf B (i + 1)) (scf B (i + 2)) hP1 (by omega) (by omega) (by omega) (by omega)) (cqI ?_)
  rintro z2 M2 ⟨hP2, hF2, y0, y1⟩
  have hg2 := hF2.at g_below rfl
  have hg1 : True := trivial
  have u_0_1 := hF1.at g_0_1 rfl
  have v_0_1 := hF2.at g_0_1 rfl
  have u_0_9 := hF1.at g_0_9 rfl
  have v_0_9 := hF2.at g_0_9 rfl
  have u_2_1 := hF1.at g_2_1 rfl
  have v_2_1 := hF2.at g_2_1 rfl
  have u_0_5 := hF1.at g_0_5 rfl
  have v_0_5 := hF2.at g_0_5 rfl
  have u_0_11 := hF1.at g_0_11 rfl
  have v_0_11 := hF2.at g_0_11 rfl
  have u_739_27 := hF1.at g_739_27 rfl
  have v_739_27 := hF2.at g_739_27 rfl
  have u_739_13 := hF1.at g_739_13 rfl
  have v_739_13 := hF2.at g_739_13 rfl
  have u_739_1 := hF1.at g_739_1 rfl
  have v_739_1 := hF2.at g_739_1 rfl
  have u_739_29 := hF1.at g_739_29 rfl
  have v_739_29 := hF2.at g_739_29 rfl
  have u_739_21 := hF1.at g_739_21 rfl
  have v_739_21 := hF2.at g_739_21 rfl
  have hb := bf_0_1 hP
  have hA2 : TA (fun k => M2 1 k) (fun k => M2 755 k) (M2 0 1) := TA_mv hA (fun k => (hF2.at (ga_1 k) rfl).trans (hF1.at (ga_1 k) rfl)) (fun k => (hF2.at (ga_755 k) rfl).trans (hF1.at (ga_755 k) rfl)) (by omega)
  have hI2 : INV4 M2 (i + 6) := ⟨⟨hP2, by omega, WS_sm (Sm.fr hF2 rfl) hW1, QW_sm (Sm.fr hF2 rfl) hQ1, by omega, by omega⟩, hA2, by omega, by omega, by omega, by omega⟩
  exact wk_is6 r0_562 rfl (wk_goto r0_564 (wk_inc4 r0_947 rfl (wk_goto r0_950 (wp_fg (le_s (le_s (le_s (le_s (le_s (le_n (le_n le_0))))))) (hk M2 hI2)))))
theorem r0_567 : Rw 0 567 568 1 14 1 0 0 := rw_of (by decide +kernel)
theorem r0_568 : Rw 0 568 569 1 14 0 0 0 := rw_of (by decide +kernel)
theorem r0_569 : Rw 0 569 571 2 11 4 0 0 := rw_of (by decide +kernel)
theorem r0_571 : Rw 0 571 572 1 1 (cd 1) 2 0 := rw_of (by decide +kernel)
theorem r0_572 : Rw 0 572 573 1 30 0 0 0 := rw_of (by decide +kernel)
theorem r0_573 : Rw 0 573 574 1 97 0 0 0 := rw_of (by decide +kernel)
theorem r0_574 : Rw 0 574 575 1 14 3 0 0 := rw_of (by decide +kernel)
theorem r0_575 : Rw 0 575 578 3 113 262 3 120 := rw_of (by decide +kernel)
theorem r0_578 : Rw 0 578 580 2 17 5 0 0 := rw_of (by decide +kernel)
theorem r0_580 : Rw 0 580 581 1 14 2 0 0 := rw_of (by decide +kernel)
theorem r0_581 : Rw 0 581 582 1 14 0 0 0 := rw_of (by decide +kernel)
theorem r0_582 : Rw 0 582 584 2 11 4 0 0 := rw_of (by decide +kernel)
theorem r0_584 : Rw 0 584 585 1 1 (cd 1) 2 0 := rw_of (by decide +kernel)
theorem r0_585 : Rw 0 585 586 1 30 0 0 0 := rw_of (by decide +kernel)
theorem r0_586 : Rw 0 586 587 1 97 0 0 0 := rw_of (by decide +kernel)
theorem r0_587 : Rw 0 587 590 3 100 132 2 122 := rw_of (by decide +kernel)
theorem kc_739_132 : Kc 739 132 := kc_of (by decide) (by decide +kernel)
theorem r0_590 : Rw 0 590 592 2 17 6 0 0 := rw_of (by decide +kernel)
theorem r0_592 : Rw 0 592 595 3 60 947 0 0 := rw_of (by decide +kernel)
theorem law4_told {B : eB} {n i : Int} {d : Nat} {M : Mm} {Q : Nat → eV → Mm → Prop} (hB : SB B n) (h0 : 0 ≤ i) (h1 : i ≤ n - 6) (hI : INV4 M i) (hk : ∀ M2, INV4 M2 (i + 6) → Wp B (d + 50) 0 23 [some (R 4096), some (R 0), some (R 739), some (R 769), some (I (i + 6)), none, none] [] M2 Q) : Wp B (d + 50) 0 567 [some (R 4096), some (R 0), some (R 739), some (R 769), some (I i), none, none] [] M Q := by
  obtain ⟨⟨hP, hT, hW, hQW, hg0, hg9⟩, hA, i9, i2, i5, i11⟩ := hI
  refine wk_al1 r0_567 (wk_al0 r0_568 (wk_il4 r0_569 (wk_c1 r0_571 (wk_iadd r0_572 (wk_saldf hB r0_573 ⟨by omega, by omega⟩ ?_)))))
  intro a1 b1
  refine wk_al3 r0_574 (wk_cs113_3 r0_575 rfl (lw_told _ M (scf B (i + 1)) hP (by omega) (by omega)) (cqI ?_))
  rintro z1 M1 ⟨hP1, hF1, x0, x1, x2, x3⟩
  refine wk_is5 r0_578 rfl (wk_al2 r0_580 (wk_al0 r0_581 (wk_il4 r0_582 (wk_c1 r0_584 (wk_iadd r0_585 (wk_saldf hB r0_586 ⟨by omega, by omega⟩ ?_))))))
  intro a2 b2
  have hW1 : WS M1 := WS_sm (Sm.fr hF1 rfl) hW
  have hQ1 : QW M1 := QW_sm (Sm.fr hF1 rfl) hQW
  refine wk_cv2 r0_587 kc_739_132 rfl (m132_739 _ M1 (scf B (i + 1)) hP1 (by omega) (by omega)) (cqI ?_)
  rintro z2 M2 ⟨hP2, hF2, y0, y1⟩
  have hg2 := hF2.at g_below rfl
  have hg1 : True := trivial
  have u_0_1 := hF1.at g_0_1 rfl
  have v_0_1 := hF2.at g_0_1 rfl
  have u_0_9 := hF1.at g_0_9 rfl
  have v_0_9 := hF2.at g_0_9 rfl
  have u_2_1 := hF1.at g_2_1 rfl
  have v_2_1 := hF2.at g_2_1 rfl
  have u_0_5 := hF1.at g_0_5 rfl
  have v_0_5 := hF2.at g_0_5 rfl
  have u_0_11 := hF1.at g_0_11 rfl
  have v_0_11 := hF2.at g_0_11 rfl
  have u_739_27 := hF1.at g_739_27 rfl
  have v_739_27 := hF2.at g_739_27 rfl
  have u_739_13 := hF1.at g_739_13 rfl
  have v_739_13 := hF2.at g_739_13 rfl
  have u_739_1 := hF1.at g_739_1 rfl
  have v_739_1 := hF2.at g_739_1 rfl
  have u_739_29 := hF1.at g_739_29 rfl
  have v_739_29 := hF2.at g_739_29 rfl
  have u_739_21 := hF1.at g_739_21 rfl
  have v_739_21 := hF2.at g_739_21 rfl
  have hb := bf_0_1 hP
  have hA2 : TA (fun k => M2 1 k) (fun k => M2 755 k) (M2 0 1) := TA_mv hA (fun k => (hF2.at (ga_1 k) rfl).trans (hF1.at (ga_1 k) rfl)) (fun k => (hF2.at (ga_755 k) rfl).trans (hF1.at (ga_755 k) rfl)) (by omega)
  have hI2 : INV4 M2 (i + 6) := ⟨⟨hP2, by omega, WS_sm (Sm.fr hF2 rfl) hW1, QW_sm (Sm.fr hF2 rfl) hQ1, by omega, by omega⟩, hA2, by omega, by omega, by omega, by omega⟩
  exact wk_is6 r0_590 rfl (wk_goto r0_592 (wk_inc4 r0_947 rfl (wk_goto r0_950 (wp_fg (le_s (le_s (le_s (le_s (le_s (le_n (le_n le_0))))))) (hk M2 hI2)))))
theorem r0_595 : Rw 0 595 596 1 14 1 0 0 := rw_of (by decide +kernel)
theorem r0_596 : Rw 0 596 597 1 14 0 0 0 := rw_of (by decide +kernel)
theorem r0_597 : Rw 0 597 599 2 11 4 0 0 := rw_of (by decide +kernel)
theorem r0_599 : Rw 0 599 600 1 1 (cd 1) 2 0 := rw_of (by decide +kernel)
theorem r0_600 : Rw 0 600 601 1 30 0 0 0 := rw_of (by decide +kernel)
theorem r0_601 : Rw 0 601 602 1 97 0 0 0 := rw_of (by decide +kernel)
theorem r0_602 : Rw 0 602 603 1 14 3 0 0 := rw_of (by decide +kernel)
theorem r0_603 : Rw 0 603 606 3 113 248 3 123 := rw_of (by decide +kernel)
theorem r0_606 : Rw 0 606 608 2 17 5 0 0 := rw_of (by decide +kernel)
theorem r0_608 : Rw 0 608 609 1 14 2 0 0 := rw_of (by decide +kernel)
theorem r0_609 : Rw 0 609 610 1 14 0 0 0 := rw_of (by decide +kernel)
theorem r0_610 : Rw 0 610 612 2 11 4 0 0 := rw_of (by decide +kernel)
theorem r0_612 : Rw 0 612 613 1 1 (cd 1) 2 0 := rw_of (by decide +kernel)
theorem r0_613 : Rw 0 613 614 1 30 0 0 0 := rw_of (by decide +kernel)
theorem r0_614 : Rw 0 614 615 1 97 0 0 0 := rw_of (by decide +kernel)
theorem r0_615 : Rw 0 615 618 3 100 55 2 125 := rw_of (by decide +kernel)
theorem kc_739_55 : Kc 739 55 := kc_of (by decide) (by decide +kernel)
theorem r0_618 : Rw 0 618 620 2 17 6 0 0 := rw_of (by decide +kernel)
theorem r0_620 : Rw 0 620 623 3 60 947 0 0 := rw_of (by decide +kernel)
theorem law4_can {B : eB} {n i : Int} {d : Nat} {M : Mm} {Q : Nat → eV → Mm → Prop} (hB : SB B n) (h0 : 0 ≤ i) (h1 : i ≤ n - 6) (hI : INV4 M i) (hk : ∀ M2, INV4 M2 (i + 6) → Wp B (d + 50) 0 23 [some (R 4096), some (R 0), some (R 739), some (R 769), some (I (i + 6)), none, none] [] M2 Q) : Wp B (d + 50) 0 595 [some (R 4096), some (R 0), some (R 739), some (R 769), some (I i), none, none] [] M Q := by
  obtain ⟨⟨hP, hT, hW, hQW, hg0, hg9⟩, hA, i9, i2, i5, i11⟩ := hI
  refine wk_al1 r0_595 (wk_al0 r0_596 (wk_il4 r0_597 (wk_c1 r0_599 (wk_iadd r0_600 (wk_saldf hB r0_601 ⟨by omega, by omega⟩ ?_)))))
  intro a1 b1
  refine wk_al3 r0_602 (wk_cs113_3 r0_603 rfl (lw_can _ M (scf B (i + 1)) hP (by omega) (by omega)) (cqI ?_))
  rintro z1 M1 ⟨hP1, hF1, x0, x1, x2, x3⟩
  refine wk_is5 r0_606 rfl (wk_al2 r0_608 (wk_al0 r0_609 (wk_il4 r0_610 (wk_c1 r0_612 (wk_iadd r0_613 (wk_saldf hB r0_614 ⟨by omega, by omega⟩ ?_))))))
  intro a2 b2
  have hW1 : WS M1 := WS_sm (Sm.fr hF1 rfl) hW
  have hQ1 : QW M1 := QW_sm (Sm.fr hF1 rfl) hQW
  refine wk_cv2 r0_615 kc_739_55 rfl (m9055_739 _ M1 (scf B (i + 1)) hP1 (by omega) (by omega)) (cqI ?_)
  rintro z2 M2 ⟨hP2, hF2, y0, y1⟩
  have hg2 := hF2.at g_below rfl
  have hg1 : True := trivial
  have u_0_1 := hF1.at g_0_1 rfl
  have v_0_1 := hF2.at g_0_1 rfl
  have u_0_9 := hF1.at g_0_9 rfl
  have v_0_9 := hF2.at g_0_9 rfl
  have u_2_1 := hF1.at g_2_1 rfl
  have v_2_1 := hF2.at g_2_1 rfl
  have u_0_5 := hF1.at g_0_5 rfl
  have v_0_5 := hF2.at g_0_5 rfl
  have u_0_11 := hF1.at g_0_11 rfl
  have v_0_11 := hF2.at g_0_11 rfl
  have u_739_27 := hF1.at g_739_27 rfl
  have v_739_27 := hF2.at g_739_27 rfl
  have u_739_13 := hF1.at g_739_13 rfl
  have v_739_13 := hF2.at g_739_13 rfl
  have u_739_1 := hF1.at g_739_1 rfl
  have v_739_1 := hF2.at g_739_1 rfl
  have u_739_29 := hF1.at g_739_29 rfl
  have v_739_29 := hF2.at g_739_29 rfl
  have u_739_21 := hF1.at g_739_21 rfl
  have v_739_21 := hF2.at g_739_21 rfl
  have hb := bf_0_1 hP
  have hA2 : TA (fun k => M2 1 k) (fun k => M2 755 k) (M2 0 1) := TA_mv hA (fun k => (hF2.at (ga_1 k) rfl).trans (hF1.at (ga_1 k) rfl)) (fun k => (hF2.at (ga_755 k) rfl).trans (hF1.at (ga_755 k) rfl)) (by omega)
  have hI2 : INV4 M2 (i + 6) := ⟨⟨hP2, by omega, WS_sm (Sm.fr hF2 rfl) hW1, QW_sm (Sm.fr hF2 rfl) hQ1, by omega, by omega⟩, hA2, by omega, by omega, by omega, by omega⟩
  exact wk_is6 r0_618 rfl (wk_goto r0_620 (wk_inc4 r0_947 rfl (wk_goto r0_950 (wp_fg (le_s (le_s (le_s (le_s (le_s (le_n (le_n le_0))))))) (hk M2 hI2)))))
theorem r0_623 : Rw 0 623 624 1 14 1 0 0 := rw_of (by decide +kernel)
theorem r0_624 : Rw 0 624 625 1 14 0 0 0 := rw_of (by decide +kernel)
theorem r0_625 : Rw 0 625 627 2 11 4 0 0 := rw_of (by decide +kernel)
theorem r0_627 : Rw 0 627 628 1 1 (cd 1) 2 0 := rw_of (by decide +kernel)
theorem r0_628 : Rw 0 628 629 1 30 0 0 0 := rw_of (by decide +kernel)
theorem r0_629 : Rw 0 629 630 1 97 0 0 0 := rw_of (by decide +kernel)
theorem r0_630 : Rw 0 630 631 1 14 0 0 0 := rw_of (by decide +kernel)
theorem r0_631 : Rw 0 631 633 2 11 4 0 0 := rw_of (by decide +kernel)
theorem r0_633 : Rw 0 633 634 1 1 (cd 2) 3 0 := rw_of (by decide +kernel)
theorem r0_634 : Rw 0 634 635 1 30 0 0 0 := rw_of (by decide +kernel)
theorem r0_635 : Rw 0 635 636 1 97 0 0 0 := rw_of (by decide +kernel)
theorem r0_636 : Rw 0 636 637 1 14 3 0 0 := rw_of (by decide +kernel)
theorem r0_637 : Rw 0 637 640 3 113 249 4 126 := rw_of (by decide +kernel)
theorem r0_640 : Rw 0 640 642 2 17 5 0 0 := rw_of (by decide +kernel)
theorem r0_642 : Rw 0 642 643 1 14 2 0 0 := rw_of (by decide +kernel)
theorem r0_643 : Rw 0 643 644 1 14 0 0 0 := rw_of (by decide +kernel)
theorem r0_644 : Rw 0 644 646 2 11 4 0 0 := rw_of (by decide +kernel)
theorem r0_646 : Rw 0 646 647 1 1 (cd 1) 2 0 := rw_of (by decide +kernel)
theorem r0_647 : Rw 0 647 648 1 30 0 0 0 := rw_of (by decide +kernel)
theorem r0_648 : Rw 0 648 649 1 97 0 0 0 := rw_of (by decide +kernel)
theorem r0_649 : Rw 0 649 650 1 14 0 0 0 := rw_of (by decide +kernel)
theorem r0_650 : Rw 0 650 652 2 11 4 0 0 := rw_of (by decide +kernel)
theorem r0_652 : Rw 0 652 653 1 1 (cd 2) 3 0 := rw_of (by decide +kernel)
theorem r0_653 : Rw 0 653 654 1 30 0 0 0 := rw_of (by decide +kernel)
theorem r0_654 : Rw 0 654 655 1 97 0 0 0 := rw_of (by decide +kernel)
theorem r0_655 : Rw 0 655 658 3 100 60 3 128 := rw_of (by decide +kernel)
theorem kc_739_60 : Kc 739 60 := kc_of (by decide) (by decide +kernel)
theorem r0_658 : Rw 0 658 660 2 17 6 0 0 := rw_of (by decide +kernel)
theorem r0_660 : Rw 0 660 663 3 60 947 0 0 := rw_of (by decide +kernel)
theorem law4_could {B : eB} {n i : Int} {d : Nat} {M : Mm} {Q : Nat → eV → Mm → Prop} (hB : SB B n) (h0 : 0 ≤ i) (h1 : i ≤ n - 6) (hI : INV4 M i) (hk : ∀ M2, INV4 M2 (i + 6) → Wp B (d + 50) 0 23 [some (R 4096), some (R 0), some (R 739), some (R 769), some (I (i + 6)), none, none] [] M2 Q) : Wp B (d + 50) 0 623 [some (R 4096), some (R 0), some (R 739), some (R 769), some (I i), none, none] [] M Q := by
  obtain ⟨⟨hP, hT, hW, hQW, hg0, hg9⟩, hA, i9, i2, i5, i11⟩ := hI
  refine wk_al1 r0_623 (wk_al0 r0_624 (wk_il4 r0_625 (wk_c1 r0_627 (wk_iadd r0_628 (wk_saldf hB r0_629 ⟨by omega, by omega⟩ ?_)))))
  intro a1 b1
  refine wk_al0 r0_630 (wk_il4 r0_631 (wk_c1 r0_633 (wk_iadd r0_634 (wk_saldf hB r0_635 ⟨by omega, by omega⟩ ?_))))
  intro a2 b2
  refine wk_al3 r0_636 (wk_cs113_4 r0_637 rfl (lw_could _ M (scf B (i + 1)) (scf B (i + 2)) hP (by omega) (by omega) (by omega) (by omega)) (cqI ?_))
  rintro z1 M1 ⟨hP1, hF1, x0, x1, x2, x3⟩
  refine wk_is5 r0_640 rfl (wk_al2 r0_642 (wk_al0 r0_643 (wk_il4 r0_644 (wk_c1 r0_646 (wk_iadd r0_647 (wk_saldf hB r0_648 ⟨by omega, by omega⟩ ?_))))))
  intro a3 b3
  refine wk_al0 r0_649 (wk_il4 r0_650 (wk_c1 r0_652 (wk_iadd r0_653 (wk_saldf hB r0_654 ⟨by omega, by omega⟩ ?_))))
  intro a4 b4
  have hW1 : WS M1 := WS_sm (Sm.fr hF1 rfl) hW
  have hQ1 : QW M1 := QW_sm (Sm.fr hF1 rfl) hQW
  refine wk_cv3 r0_655 kc_739_60 rfl (m9060_739 _ M1 (scf B (i + 1)) (scf B (i + 2)) (M1 739 13) (M1 739 1) hP1 (by omega) (by omega) (by omega) (by omega) rfl (bf_739_13 hP1).1 (bf_739_13 hP1).2 rfl (bf_739_1 hP1).1 (bf_739_1 hP1).2 hW1) (cqI ?_)
  rintro z2 M2 ⟨hP2, hF2, y0, y1, y2⟩
  have hg2 := hF2.at g_below rfl
  have hg1 : True := trivial
  have u_0_1 := hF1.at g_0_1 rfl
  have v_0_1 := hF2.at g_0_1 rfl
  have u_0_9 := hF1.at g_0_9 rfl
  have v_0_9 := hF2.at g_0_9 rfl
  have u_2_1 := hF1.at g_2_1 rfl
  have v_2_1 := hF2.at g_2_1 rfl
  have u_0_5 := hF1.at g_0_5 rfl
  have v_0_5 := hF2.at g_0_5 rfl
  have u_0_11 := hF1.at g_0_11 rfl
  have v_0_11 := hF2.at g_0_11 rfl
  have u_739_27 := hF1.at g_739_27 rfl
  have v_739_27 := hF2.at g_739_27 rfl
  have u_739_13 := hF1.at g_739_13 rfl
  have v_739_13 := hF2.at g_739_13 rfl
  have u_739_1 := hF1.at g_739_1 rfl
  have v_739_1 := hF2.at g_739_1 rfl
  have u_739_29 := hF1.at g_739_29 rfl
  have v_739_29 := hF2.at g_739_29 rfl
  have u_739_21 := hF1.at g_739_21 rfl
  have v_739_21 := hF2.at g_739_21 rfl
  have hb := bf_0_1 hP
  have hA2 : TA (fun k => M2 1 k) (fun k => M2 755 k) (M2 0 1) := TA_mv hA (fun k => (hF2.at (ga_1 k) rfl).trans (hF1.at (ga_1 k) rfl)) (fun k => (hF2.at (ga_755 k) rfl).trans (hF1.at (ga_755 k) rfl)) (by omega)
  have hI2 : INV4 M2 (i + 6) := ⟨⟨hP2, by omega, y2, QW_sm (Sm.fr hF2 rfl) hQ1, by omega, by omega⟩, hA2, by omega, by omega, by omega, by omega⟩
  exact wk_is6 r0_658 rfl (wk_goto r0_660 (wk_inc4 r0_947 rfl (wk_goto r0_950 (wp_fg (le_s (le_s (le_s (le_s (le_s (le_n (le_n le_0))))))) (hk M2 hI2)))))
theorem r0_663 : Rw 0 663 664 1 14 1 0 0 := rw_of (by decide +kernel)
theorem r0_664 : Rw 0 664 667 3 100 32 1 129 := rw_of (by decide +kernel)
theorem kc_0_32 : Kc 0 32 := kc_of (by decide) (by decide +kernel)
theorem r0_667 : Rw 0 667 668 1 53 0 0 0 := rw_of (by decide +kernel)
theorem r0_668 : Rw 0 668 669 1 14 2 0 0 := rw_of (by decide +kernel)
theorem r0_669 : Rw 0 669 672 3 100 113 1 132 := rw_of (by decide +kernel)
theorem kc_739_113 : Kc 739 113 := kc_of (by decide) (by decide +kernel)
theorem r0_672 : Rw 0 672 673 1 53 0 0 0 := rw_of (by decide +kernel)
theorem r0_673 : Rw 0 673 676 3 60 947 0 0 := rw_of (by decide +kernel)
theorem law4_needless {B : eB} {n i : Int} {d : Nat} {M : Mm} {Q : Nat → eV → Mm → Prop} (hB : SB B n) (h0 : 0 ≤ i) (h1 : i ≤ n - 6) (hI : INV4 M i) (hk : ∀ M2, INV4 M2 (i + 6) → Wp B (d + 50) 0 23 [some (R 4096), some (R 0), some (R 739), some (R 769), some (I (i + 6)), none, none] [] M2 Q) : Wp B (d + 50) 0 663 [some (R 4096), some (R 0), some (R 739), some (R 769), some (I i), none, none] [] M Q := by
  obtain ⟨⟨hP, hT, hW, hQW, hg0, hg9⟩, hA, i9, i2, i5, i11⟩ := hI
  refine wk_al1 r0_663 (wk_cv1 r0_664 kc_0_32 rfl (m32_0 _ M  hP ) (cqI ?_))
  rintro z1 M1 ⟨hP1, hF1, x0, x1⟩
  refine wk_popi r0_667 (wk_al2 r0_668 ?_)
  have hW1 : WS M1 := WS_sm (Sm.fr hF1 rfl) hW
  have hQ1 : QW M1 := QW_sm (Sm.fr hF1 rfl) hQW
  refine wk_cv1 r0_669 kc_739_113 rfl (m113_739 _ M1  hP1 ) (cqI ?_)
  rintro z2 M2 ⟨hP2, hF2, y0, y1⟩
  have hg2 := hF2.at g_below rfl
  have hg1 := hF1.at g_below rfl
  have u_0_1 := hF1.at g_0_1 rfl
  have v_0_1 := hF2.at g_0_1 rfl
  have u_0_9 := hF1.at g_0_9 rfl
  have v_0_9 := hF2.at g_0_9 rfl
  have u_2_1 := hF1.at g_2_1 rfl
  have v_2_1 := hF2.at g_2_1 rfl
  have u_0_5 := hF1.at g_0_5 rfl
  have v_0_5 := hF2.at g_0_5 rfl
  have u_0_11 := hF1.at g_0_11 rfl
  have v_0_11 := hF2.at g_0_11 rfl
  have u_739_27 := hF1.at g_739_27 rfl
  have v_739_27 := hF2.at g_739_27 rfl
  have u_739_13 := hF1.at g_739_13 rfl
  have v_739_13 := hF2.at g_739_13 rfl
  have u_739_1 := hF1.at g_739_1 rfl
  have v_739_1 := hF2.at g_739_1 rfl
  have u_739_29 := hF1.at g_739_29 rfl
  have v_739_29 := hF2.at g_739_29 rfl
  have u_739_21 := hF1.at g_739_21 rfl
  have v_739_21 := hF2.at g_739_21 rfl
  have hb := bf_0_1 hP
  have hA2 : TA (fun k => M2 1 k) (fun k => M2 755 k) (M2 0 1) := TA_mv hA (fun k => (hF2.at (ga_1 k) rfl).trans (hF1.at (ga_1 k) rfl)) (fun k => (hF2.at (ga_755 k) rfl).trans (hF1.at (ga_755 k) rfl)) (by omega)
  have hI2 : INV4 M2 (i + 6) := ⟨⟨hP2, by omega, WS_sm (Sm.fr hF2 rfl) hW1, QW_sm (Sm.fr hF2 rfl) hQ1, by omega, by omega⟩, hA2, by omega, by omega, by omega, by omega⟩
  exact wk_popi r0_672 (wk_goto r0_673 (wk_inc4 r0_947 rfl (wk_goto r0_950 (wp_fg (le_s (le_s (le_s (le_s (le_s (le_s (le_s le_0))))))) (hk M2 hI2)))))
theorem r0_676 : Rw 0 676 677 1 14 1 0 0 := rw_of (by decide +kernel)
theorem r0_677 : Rw 0 677 678 1 14 0 0 0 := rw_of (by decide +kernel)
theorem r0_678 : Rw 0 678 680 2 11 4 0 0 := rw_of (by decide +kernel)
theorem r0_680 : Rw 0 680 681 1 1 (cd 1) 2 0 := rw_of (by decide +kernel)
theorem r0_681 : Rw 0 681 682 1 30 0 0 0 := rw_of (by decide +kernel)
theorem r0_682 : Rw 0 682 683 1 97 0 0 0 := rw_of (by decide +kernel)
theorem r0_683 : Rw 0 683 684 1 14 3 0 0 := rw_of (by decide +kernel)
theorem r0_684 : Rw 0 684 687 3 113 251 3 133 := rw_of (by decide +kernel)
theorem r0_687 : Rw 0 687 689 2 17 5 0 0 := rw_of (by decide +kernel)
theorem r0_689 : Rw 0 689 690 1 14 2 0 0 := rw_of (by decide +kernel)
theorem r0_690 : Rw 0 690 691 1 14 0 0 0 := rw_of (by decide +kernel)
theorem r0_691 : Rw 0 691 693 2 11 4 0 0 := rw_of (by decide +kernel)
theorem r0_693 : Rw 0 693 694 1 1 (cd 1) 2 0 := rw_of (by decide +kernel)
theorem r0_694 : Rw 0 694 695 1 30 0 0 0 := rw_of (by decide +kernel)
theorem r0_695 : Rw 0 695 696 1 97 0 0 0 := rw_of (by decide +kernel)
theorem r0_696 : Rw 0 696 699 3 100 66 2 135 := rw_of (by decide +kernel)
theorem kc_739_66 : Kc 739 66 := kc_of (by decide) (by decide +kernel)
theorem r0_699 : Rw 0 699 701 2 17 6 0 0 := rw_of (by decide +kernel)
theorem r0_701 : Rw 0 701 704 3 60 947 0 0 := rw_of (by decide +kernel)
theorem law4_enough {B : eB} {n i : Int} {d : Nat} {M : Mm} {Q : Nat → eV → Mm → Prop} (hB : SB B n) (h0 : 0 ≤ i) (h1 : i ≤ n - 6) (hI : INV4 M i) (hk : ∀ M2, INV4 M2 (i + 6) → Wp B (d + 50) 0 23 [some (R 4096), some (R 0), some (R 739), some (R 769), some (I (i + 6)), none, none] [] M2 Q) : Wp B (d + 50) 0 676 [some (R 4096), some (R 0), some (R 739), some (R 769), some (I i), none, none] [] M Q := by
  obtain ⟨⟨hP, hT, hW, hQW, hg0, hg9⟩, hA, i9, i2, i5, i11⟩ := hI
  refine wk_al1 r0_676 (wk_al0 r0_677 (wk_il4 r0_678 (wk_c1 r0_680 (wk_iadd r0_681 (wk_saldf hB r0_682 ⟨by omega, by omega⟩ ?_)))))
  intro a1 b1
  refine wk_al3 r0_683 (wk_cs113_3 r0_684 rfl (lw_enough _ M (scf B (i + 1)) hP (by omega) (by omega)) (cqI ?_))
  rintro z1 M1 ⟨hP1, hF1, x0, x1, x2, x3⟩
  refine wk_is5 r0_687 rfl (wk_al2 r0_689 (wk_al0 r0_690 (wk_il4 r0_691 (wk_c1 r0_693 (wk_iadd r0_694 (wk_saldf hB r0_695 ⟨by omega, by omega⟩ ?_))))))
  intro a2 b2
  have hW1 : WS M1 := WS_sm (Sm.fr hF1 rfl) hW
  have hQ1 : QW M1 := QW_sm (Sm.fr hF1 rfl) hQW
  refine wk_cv2 r0_696 kc_739_66 rfl (m66_739 _ M1 (scf B (i + 1)) hP1 (by omega) (by omega)) (cqI ?_)
  rintro z2 M2 ⟨hP2, hF2, y0, y1⟩
  have hg2 := hF2.at g_below rfl
  have hg1 : True := trivial
  have u_0_1 := hF1.at g_0_1 rfl
  have v_0_1 := hF2.at g_0_1 rfl
  have u_0_9 := hF1.at g_0_9 rfl
  have v_0_9 := hF2.at g_0_9 rfl
  have u_2_1 := hF1.at g_2_1 rfl
  have v_2_1 := hF2.at g_2_1 rfl
  have u_0_5 := hF1.at g_0_5 rfl
  have v_0_5 := hF2.at g_0_5 rfl
  have u_0_11 := hF1.at g_0_11 rfl
  have v_0_11 := hF2.at g_0_11 rfl
  have u_739_27 := hF1.at g_739_27 rfl
  have v_739_27 := hF2.at g_739_27 rfl
  have u_739_13 := hF1.at g_739_13 rfl
  have v_739_13 := hF2.at g_739_13 rfl
  have u_739_1 := hF1.at g_739_1 rfl
  have v_739_1 := hF2.at g_739_1 rfl
  have u_739_29 := hF1.at g_739_29 rfl
  have v_739_29 := hF2.at g_739_29 rfl
  have u_739_21 := hF1.at g_739_21 rfl
  have v_739_21 := hF2.at g_739_21 rfl
  have hb := bf_0_1 hP
  have hA2 : TA (fun k => M2 1 k) (fun k => M2 755 k) (M2 0 1) := TA_mv hA (fun k => (hF2.at (ga_1 k) rfl).trans (hF1.at (ga_1 k) rfl)) (fun k => (hF2.at (ga_755 k) rfl).trans (hF1.at (ga_755 k) rfl)) (by omega)
  have hI2 : INV4 M2 (i + 6) := ⟨⟨hP2, by omega, WS_sm (Sm.fr hF2 rfl) hW1, QW_sm (Sm.fr hF2 rfl) hQ1, by omega, by omega⟩, hA2, by omega, by omega, by omega, by omega⟩
  exact wk_is6 r0_699 rfl (wk_goto r0_701 (wk_inc4 r0_947 rfl (wk_goto r0_950 (wp_fg (le_s (le_s (le_s (le_s (le_s (le_n (le_n le_0))))))) (hk M2 hI2)))))
theorem r0_704 : Rw 0 704 705 1 14 1 0 0 := rw_of (by decide +kernel)
theorem r0_705 : Rw 0 705 708 3 100 26 1 136 := rw_of (by decide +kernel)
theorem kc_0_26 : Kc 0 26 := kc_of (by decide) (by decide +kernel)
theorem r0_708 : Rw 0 708 709 1 53 0 0 0 := rw_of (by decide +kernel)
theorem r0_709 : Rw 0 709 710 1 14 2 0 0 := rw_of (by decide +kernel)
theorem r0_710 : Rw 0 710 713 3 100 96 1 139 := rw_of (by decide +kernel)
theorem kc_739_96 : Kc 739 96 := kc_of (by decide) (by decide +kernel)
theorem r0_713 : Rw 0 713 714 1 53 0 0 0 := rw_of (by decide +kernel)
theorem r0_714 : Rw 0 714 717 3 60 947 0 0 := rw_of (by decide +kernel)
theorem law4_knots {B : eB} {n i : Int} {d : Nat} {M : Mm} {Q : Nat → eV → Mm → Prop} (hB : SB B n) (h0 : 0 ≤ i) (h1 : i ≤ n - 6) (hI : INV4 M i) (hk : ∀ M2, INV4 M2 (i + 6) → Wp B (d + 50) 0 23 [some (R 4096), some (R 0), some (R 739), some (R 769), some (I (i + 6)), none, none] [] M2 Q) : Wp B (d + 50) 0 704 [some (R 4096), some (R 0), some (R 739), some (R 769), some (I i), none, none] [] M Q := by
  obtain ⟨⟨hP, hT, hW, hQW, hg0, hg9⟩, hA, i9, i2, i5, i11⟩ := hI
  refine wk_al1 r0_704 (wk_cv1 r0_705 kc_0_26 rfl (m26_0 _ M  hP ) (cqI ?_))
  rintro z1 M1 ⟨hP1, hF1, x0, x1⟩
  refine wk_popi r0_708 (wk_al2 r0_709 ?_)
  have hW1 : WS M1 := WS_sm (Sm.fr hF1 rfl) hW
  have hQ1 : QW M1 := QW_sm (Sm.fr hF1 rfl) hQW
  refine wk_cv1 r0_710 kc_739_96 rfl (m96_739 _ M1  hP1 ) (cqI ?_)
  rintro z2 M2 ⟨hP2, hF2, y0, y1⟩
  have hg2 := hF2.at g_below rfl
  have hg1 := hF1.at g_below rfl
  have u_0_1 := hF1.at g_0_1 rfl
  have v_0_1 := hF2.at g_0_1 rfl
  have u_0_9 := hF1.at g_0_9 rfl
  have v_0_9 := hF2.at g_0_9 rfl
  have u_2_1 := hF1.at g_2_1 rfl
  have v_2_1 := hF2.at g_2_1 rfl
  have u_0_5 := hF1.at g_0_5 rfl
  have v_0_5 := hF2.at g_0_5 rfl
  have u_0_11 := hF1.at g_0_11 rfl
  have v_0_11 := hF2.at g_0_11 rfl
  have u_739_27 := hF1.at g_739_27 rfl
  have v_739_27 := hF2.at g_739_27 rfl
  have u_739_13 := hF1.at g_739_13 rfl
  have v_739_13 := hF2.at g_739_13 rfl
  have u_739_1 := hF1.at g_739_1 rfl
  have v_739_1 := hF2.at g_739_1 rfl
  have u_739_29 := hF1.at g_739_29 rfl
  have v_739_29 := hF2.at g_739_29 rfl
  have u_739_21 := hF1.at g_739_21 rfl
  have v_739_21 := hF2.at g_739_21 rfl
  have hb := bf_0_1 hP
  have hA2 : TA (fun k => M2 1 k) (fun k => M2 755 k) (M2 0 1) := TA_mv hA (fun k => (hF2.at (ga_1 k) rfl).trans (hF1.at (ga_1 k) rfl)) (fun k => (hF2.at (ga_755 k) rfl).trans (hF1.at (ga_755 k) rfl)) (by omega)
  have hI2 : INV4 M2 (i + 6) := ⟨⟨hP2, by omega, WS_sm (Sm.fr hF2 rfl) hW1, QW_sm (Sm.fr hF2 rfl) hQ1, by omega, by omega⟩, hA2, by omega, by omega, by omega, by omega⟩
  exact wk_popi r0_713 (wk_goto r0_714 (wk_inc4 r0_947 rfl (wk_goto r0_950 (wp_fg (le_s (le_s (le_s (le_s (le_s (le_s (le_s le_0))))))) (hk M2 hI2)))))
theorem r0_717 : Rw 0 717 718 1 14 1 0 0 := rw_of (by decide +kernel)
theorem r0_718 : Rw 0 718 719 1 14 0 0 0 := rw_of (by decide +kernel)
theorem r0_719 : Rw 0 719 721 2 11 4 0 0 := rw_of (by decide +kernel)
theorem r0_721 : Rw 0 721 722 1 1 (cd 1) 2 0 := rw_of (by decide +kernel)
theorem r0_722 : Rw 0 722 723 1 30 0 0 0 := rw_of (by decide +kernel)
theorem r0_723 : Rw 0 723 724 1 97 0 0 0 := rw_of (by decide +kernel)
theorem r0_724 : Rw 0 724 725 1 14 3 0 0 := rw_of (by decide +kernel)
theorem r0_725 : Rw 0 725 728 3 113 254 3 140 := rw_of (by decide +kernel)
theorem r0_728 : Rw 0 728 730 2 17 5 0 0 := rw_of (by decide +kernel)
theorem r0_730 : Rw 0 730 731 1 14 2 0 0 := rw_of (by decide +kernel)
theorem r0_731 : Rw 0 731 732 1 14 0 0 0 := rw_of (by decide +kernel)
theorem r0_732 : Rw 0 732 734 2 11 4 0 0 := rw_of (by decide +kernel)
theorem r0_734 : Rw 0 734 735 1 1 (cd 1) 2 0 := rw_of (by decide +kernel)
theorem r0_735 : Rw 0 735 736 1 30 0 0 0 := rw_of (by decide +kernel)
theorem r0_736 : Rw 0 736 737 1 97 0 0 0 := rw_of (by decide +kernel)
theorem r0_737 : Rw 0 737 740 3 100 95 2 142 := rw_of (by decide +kernel)
theorem kc_739_95 : Kc 739 95 := kc_of (by decide) (by decide +kernel)
theorem r0_740 : Rw 0 740 742 2 17 6 0 0 := rw_of (by decide +kernel)
theorem r0_742 : Rw 0 742 745 3 60 947 0 0 := rw_of (by decide +kernel)
theorem law4_knot {B : eB} {n i : Int} {d : Nat} {M : Mm} {Q : Nat → eV → Mm → Prop} (hB : SB B n) (h0 : 0 ≤ i) (h1 : i ≤ n - 6) (hI : INV4 M i) (hk : ∀ M2, INV4 M2 (i + 6) → Wp B (d + 50) 0 23 [some (R 4096), some (R 0), some (R 739), some (R 769), some (I (i + 6)), none, none] [] M2 Q) : Wp B (d + 50) 0 717 [some (R 4096), some (R 0), some (R 739), some (R 769), some (I i), none, none] [] M Q := by
  obtain ⟨⟨hP, hT, hW, hQW, hg0, hg9⟩, hA, i9, i2, i5, i11⟩ := hI
  refine wk_al1 r0_717 (wk_al0 r0_718 (wk_il4 r0_719 (wk_c1 r0_721 (wk_iadd r0_722 (wk_saldf hB r0_723 ⟨by omega, by omega⟩ ?_)))))
  intro a1 b1
  refine wk_al3 r0_724 (wk_cs113_3 r0_725 rfl (lw_knot _ M (scf B (i + 1)) hP (by omega) (by omega)) (cqI ?_))
  rintro z1 M1 ⟨hP1, hF1, x0, x1, x2, x3⟩
  refine wk_is5 r0_728 rfl (wk_al2 r0_730 (wk_al0 r0_731 (wk_il4 r0_732 (wk_c1 r0_734 (wk_iadd r0_735 (wk_saldf hB r0_736 ⟨by omega, by omega⟩ ?_))))))
  intro a2 b2
  have hW1 : WS M1 := WS_sm (Sm.fr hF1 rfl) hW
  have hQ1 : QW M1 := QW_sm (Sm.fr hF1 rfl) hQW
  refine wk_cv2 r0_737 kc_739_95 rfl (m95_739 _ M1 (scf B (i + 1)) hP1 (by omega) (by omega)) (cqI ?_)
  rintro z2 M2 ⟨hP2, hF2, y0, y1⟩
  have hg2 := hF2.at g_below rfl
  have hg1 : True := trivial
  have u_0_1 := hF1.at g_0_1 rfl
  have v_0_1 := hF2.at g_0_1 rfl
  have u_0_9 := hF1.at g_0_9 rfl
  have v_0_9 := hF2.at g_0_9 rfl
  have u_2_1 := hF1.at g_2_1 rfl
  have v_2_1 := hF2.at g_2_1 rfl
  have u_0_5 := hF1.at g_0_5 rfl
  have v_0_5 := hF2.at g_0_5 rfl
  have u_0_11 := hF1.at g_0_11 rfl
  have v_0_11 := hF2.at g_0_11 rfl
  have u_739_27 := hF1.at g_739_27 rfl
  have v_739_27 := hF2.at g_739_27 rfl
  have u_739_13 := hF1.at g_739_13 rfl
  have v_739_13 := hF2.at g_739_13 rfl
  have u_739_1 := hF1.at g_739_1 rfl
  have v_739_1 := hF2.at g_739_1 rfl
  have u_739_29 := hF1.at g_739_29 rfl
  have v_739_29 := hF2.at g_739_29 rfl
  have u_739_21 := hF1.at g_739_21 rfl
  have v_739_21 := hF2.at g_739_21 rfl
  have hb := bf_0_1 hP
  have hA2 : TA (fun k => M2 1 k) (fun k => M2 755 k) (M2 0 1) := TA_mv hA (fun k => (hF2.at (ga_1 k) rfl).trans (hF1.at (ga_1 k) rfl)) (fun k => (hF2.at (ga_755 k) rfl).trans (hF1.at (ga_755 k) rfl)) (by omega)
  have hI2 : INV4 M2 (i + 6) := ⟨⟨hP2, by omega, WS_sm (Sm.fr hF2 rfl) hW1, QW_sm (Sm.fr hF2 rfl) hQ1, by omega, by omega⟩, hA2, by omega, by omega, by omega, by omega⟩
  exact wk_is6 r0_740 rfl (wk_goto r0_742 (wk_inc4 r0_947 rfl (wk_goto r0_950 (wp_fg (le_s (le_s (le_s (le_s (le_s (le_n (le_n le_0))))))) (hk M2 hI2)))))
theorem r0_745 : Rw 0 745 746 1 14 1 0 0 := rw_of (by decide +kernel)
theorem r0_746 : Rw 0 746 747 1 14 0 0 0 := rw_of (by decide +kernel)
theorem r0_747 : Rw 0 747 749 2 11 4 0 0 := rw_of (by decide +kernel)
theorem r0_749 : Rw 0 749 750 1 1 (cd 1) 2 0 := rw_of (by decide +kernel)
theorem r0_750 : Rw 0 750 751 1 30 0 0 0 := rw_of (by decide +kernel)
theorem r0_751 : Rw 0 751 752 1 97 0 0 0 := rw_of (by decide +kernel)
theorem r0_752 : Rw 0 752 753 1 14 0 0 0 := rw_of (by decide +kernel)
theorem r0_753 : Rw 0 753 755 2 11 4 0 0 := rw_of (by decide +kernel)
theorem r0_755 : Rw 0 755 756 1 1 (cd 2) 3 0 := rw_of (by decide +kernel)
theorem r0_756 : Rw 0 756 757 1 30 0 0 0 := rw_of (by decide +kernel)
theorem r0_757 : Rw 0 757 758 1 97 0 0 0 := rw_of (by decide +kernel)
theorem r0_758 : Rw 0 758 759 1 14 3 0 0 := rw_of (by decide +kernel)
theorem r0_759 : Rw 0 759 762 3 113 257 4 143 := rw_of (by decide +kernel)
theorem r0_762 : Rw 0 762 764 2 17 5 0 0 := rw_of (by decide +kernel)
theorem r0_764 : Rw 0 764 765 1 14 2 0 0 := rw_of (by decide +kernel)
theorem r0_765 : Rw 0 765 766 1 14 0 0 0 := rw_of (by decide +kernel)
theorem r0_766 : Rw 0 766 768 2 11 4 0 0 := rw_of (by decide +kernel)
theorem r0_768 : Rw 0 768 769 1 1 (cd 1) 2 0 := rw_of (by decide +kernel)
theorem r0_769 : Rw 0 769 770 1 30 0 0 0 := rw_of (by decide +kernel)
theorem r0_770 : Rw 0 770 771 1 97 0 0 0 := rw_of (by decide +kernel)
theorem r0_771 : Rw 0 771 772 1 14 0 0 0 := rw_of (by decide +kernel)
theorem r0_772 : Rw 0 772 774 2 11 4 0 0 := rw_of (by decide +kernel)
theorem r0_774 : Rw 0 774 775 1 1 (cd 2) 3 0 := rw_of (by decide +kernel)
theorem r0_775 : Rw 0 775 776 1 30 0 0 0 := rw_of (by decide +kernel)
theorem r0_776 : Rw 0 776 777 1 97 0 0 0 := rw_of (by decide +kernel)
theorem r0_777 : Rw 0 777 780 3 100 118 3 145 := rw_of (by decide +kernel)
theorem kc_739_118 : Kc 739 118 := kc_of (by decide) (by decide +kernel)
theorem r0_780 : Rw 0 780 782 2 17 6 0 0 := rw_of (by decide +kernel)
theorem r0_782 : Rw 0 782 785 3 60 947 0 0 := rw_of (by decide +kernel)
theorem law4_question {B : eB} {n i : Int} {d : Nat} {M : Mm} {Q : Nat → eV → Mm → Prop} (hB : SB B n) (h0 : 0 ≤ i) (h1 : i ≤ n - 6) (hI : INV4 M i) (hk : ∀ M2, INV4 M2 (i + 6) → Wp B (d + 50) 0 23 [some (R 4096), some (R 0), some (R 739), some (R 769), some (I (i + 6)), none, none] [] M2 Q) : Wp B (d + 50) 0 745 [some (R 4096), some (R 0), some (R 739), some (R 769), some (I i), none, none] [] M Q := by
  obtain ⟨⟨hP, hT, hW, hQW, hg0, hg9⟩, hA, i9, i2, i5, i11⟩ := hI
  refine wk_al1 r0_745 (wk_al0 r0_746 (wk_il4 r0_747 (wk_c1 r0_749 (wk_iadd r0_750 (wk_saldf hB r0_751 ⟨by omega, by omega⟩ ?_)))))
  intro a1 b1
  refine wk_al0 r0_752 (wk_il4 r0_753 (wk_c1 r0_755 (wk_iadd r0_756 (wk_saldf hB r0_757 ⟨by omega, by omega⟩ ?_))))
  intro a2 b2
  refine wk_al3 r0_758 (wk_cs113_4 r0_759 rfl (lw4_question _ M (scf B (i + 1)) (scf B (i + 2)) (M 2 1) (M 0 9) (M 0 11) hP (by omega) (by omega) (by omega) (by omega) rfl (by have := bf_2_1 hP; have := bf_739_1 hP; omega) (bf_2_1 hP).2 rfl (bf_0_9 hP).1 (bf_0_9 hP).2 rfl (bf_0_11 hP).1 (bf_0_11 hP).2) (cqI ?_))
  rintro z1 M1 ⟨hP1, hF1, x0, x1, x2, x3, ⟨w, wl, wu, hS, hz⟩⟩
  refine wk_is5 r0_762 rfl (wk_al2 r0_764 (wk_al0 r0_765 (wk_il4 r0_766 (wk_c1 r0_768 (wk_iadd r0_769 (wk_saldf hB r0_770 ⟨by omega, by omega⟩ ?_))))))
  intro a3 b3
  refine wk_al0 r0_771 (wk_il4 r0_772 (wk_c1 r0_774 (wk_iadd r0_775 (wk_saldf hB r0_776 ⟨by omega, by omega⟩ ?_))))
  intro a4 b4
  have hW1 : WS M1 := WS_sm (Sm.fr hF1 rfl) hW
  have hQ1 : QW M1 := QW_sm (Sm.fr hF1 rfl) hQW
  refine wk_cv3 r0_777 kc_739_118 rfl (m8118_739 _ M1 (scf B (i + 1)) (scf B (i + 2)) (M1 739 13) (M1 739 21) (M1 739 1) hP1 (by omega) (by omega) (by omega) (by omega) rfl (bf_739_13 hP1).1 (bf_739_13 hP1).2 rfl (bf_739_21 hP1).1 (bf_739_21 hP1).2 rfl (bf_739_1 hP1).1 (bf_739_1 hP1).2 hW1 hQ1) (cqI ?_)
  rintro z2 M2 ⟨hP2, hF2, y0, y1, y2, y3, y4⟩
  have hg2 := hF2.at g_below rfl
  have hg1 : True := trivial
  have u_0_1 := hF1.at g_0_1 rfl
  have v_0_1 := hF2.at g_0_1 rfl
  have u_0_9 := hF1.at g_0_9 rfl
  have v_0_9 := hF2.at g_0_9 rfl
  have u_2_1 := hF1.at g_2_1 rfl
  have v_2_1 := hF2.at g_2_1 rfl
  have u_0_5 := hF1.at g_0_5 rfl
  have v_0_5 := hF2.at g_0_5 rfl
  have v_0_11 := hF2.at g_0_11 rfl
  have u_739_27 := hF1.at g_739_27 rfl
  have v_739_27 := hF2.at g_739_27 rfl
  have u_739_13 := hF1.at g_739_13 rfl
  have v_739_13 := hF2.at g_739_13 rfl
  have u_739_1 := hF1.at g_739_1 rfl
  have v_739_1 := hF2.at g_739_1 rfl
  have u_739_29 := hF1.at g_739_29 rfl
  have v_739_29 := hF2.at g_739_29 rfl
  have u_739_21 := hF1.at g_739_21 rfl
  have hb := bf_0_1 hP
  have w0 : M1 739 1 = M 2 1 := by omega
  have w1 : M1 739 13 = M 0 9 := by omega
  have w2 : M1 739 21 = M 0 11 := by omega
  rw [w0, w1, w2] at y2
  have hO := QNR_one hS y2
  obtain ⟨o0, o1, oz⟩ := hO
  have hA2 : TA (fun k => M2 1 k) (fun k => M2 755 k) (M2 0 1) := TA_mv hA (fun k => (hF2.at (ga_1 k) rfl).trans (hF1.at (ga_1 k) rfl)) (fun k => (hF2.at (ga_755 k) rfl).trans (hF1.at (ga_755 k) rfl)) (by omega)
  have hI2 : INV4 M2 (i + 6) := ⟨⟨hP2, by omega, y3, y4, by omega, by omega⟩, hA2, by omega, by omega, by omega, by omega⟩
  exact wk_is6 r0_780 rfl (wk_goto r0_782 (wk_inc4 r0_947 rfl (wk_goto r0_950 (wp_fg (le_s (le_s (le_s (le_s (le_s (le_n (le_n le_0))))))) (hk M2 hI2)))))
theorem r0_785 : Rw 0 785 786 1 14 1 0 0 := rw_of (by decide +kernel)
theorem r0_786 : Rw 0 786 787 1 14 0 0 0 := rw_of (by decide +kernel)
theorem r0_787 : Rw 0 787 789 2 11 4 0 0 := rw_of (by decide +kernel)
theorem r0_789 : Rw 0 789 790 1 1 (cd 1) 2 0 := rw_of (by decide +kernel)
theorem r0_790 : Rw 0 790 791 1 30 0 0 0 := rw_of (by decide +kernel)
theorem r0_791 : Rw 0 791 792 1 97 0 0 0 := rw_of (by decide +kernel)
theorem r0_792 : Rw 0 792 793 1 14 3 0 0 := rw_of (by decide +kernel)
theorem r0_793 : Rw 0 793 796 3 113 252 3 146 := rw_of (by decide +kernel)
theorem r0_796 : Rw 0 796 798 2 17 5 0 0 := rw_of (by decide +kernel)
theorem r0_798 : Rw 0 798 799 1 14 2 0 0 := rw_of (by decide +kernel)
theorem r0_799 : Rw 0 799 800 1 14 0 0 0 := rw_of (by decide +kernel)
theorem r0_800 : Rw 0 800 802 2 11 4 0 0 := rw_of (by decide +kernel)
theorem r0_802 : Rw 0 802 803 1 1 (cd 1) 2 0 := rw_of (by decide +kernel)
theorem r0_803 : Rw 0 803 804 1 30 0 0 0 := rw_of (by decide +kernel)
theorem r0_804 : Rw 0 804 805 1 97 0 0 0 := rw_of (by decide +kernel)
theorem r0_805 : Rw 0 805 808 3 100 71 2 148 := rw_of (by decide +kernel)
theorem kc_739_71 : Kc 739 71 := kc_of (by decide) (by decide +kernel)
theorem r0_808 : Rw 0 808 810 2 17 6 0 0 := rw_of (by decide +kernel)
theorem r0_810 : Rw 0 810 813 3 60 947 0 0 := rw_of (by decide +kernel)
theorem law4_fewest {B : eB} {n i : Int} {d : Nat} {M : Mm} {Q : Nat → eV → Mm → Prop} (hB : SB B n) (h0 : 0 ≤ i) (h1 : i ≤ n - 6) (hI : INV4 M i) (hk : ∀ M2, INV4 M2 (i + 6) → Wp B (d + 50) 0 23 [some (R 4096), some (R 0), some (R 739), some (R 769), some (I (i + 6)), none, none] [] M2 Q) : Wp B (d + 50) 0 785 [some (R 4096), some (R 0), some (R 739), some (R 769), some (I i), none, none] [] M Q := by
  obtain ⟨⟨hP, hT, hW, hQW, hg0, hg9⟩, hA, i9, i2, i5, i11⟩ := hI
  refine wk_al1 r0_785 (wk_al0 r0_786 (wk_il4 r0_787 (wk_c1 r0_789 (wk_iadd r0_790 (wk_saldf hB r0_791 ⟨by omega, by omega⟩ ?_)))))
  intro a1 b1
  refine wk_al3 r0_792 (wk_cs113_3 r0_793 rfl (lw_fewest _ M (scf B (i + 1)) hP (by omega) (by omega)) (cqI ?_))
  rintro z1 M1 ⟨hP1, hF1, x0, x1, x2, x3⟩
  refine wk_is5 r0_796 rfl (wk_al2 r0_798 (wk_al0 r0_799 (wk_il4 r0_800 (wk_c1 r0_802 (wk_iadd r0_803 (wk_saldf hB r0_804 ⟨by omega, by omega⟩ ?_))))))
  intro a2 b2
  have hW1 : WS M1 := WS_sm (Sm.fr hF1 rfl) hW
  have hQ1 : QW M1 := QW_sm (Sm.fr hF1 rfl) hQW
  refine wk_cv2 r0_805 kc_739_71 rfl (m9071_739 _ M1 (scf B (i + 1)) (M1 739 13) (M1 739 21) (M1 739 7) hP1 (by omega) (by omega) rfl (bf_739_13 hP1).1 (bf_739_13 hP1).2 rfl (bf_739_21 hP1).1 (bf_739_21 hP1).2 rfl (bf_739_7 hP1).1 (bf_739_7 hP1).2 hW1 hQ1) (cqI ?_)
  rintro z2 M2 ⟨hP2, hF2, y0, y1, y2, y3⟩
  have hg2 := hF2.at g_below rfl
  have hg1 : True := trivial
  have u_0_1 := hF1.at g_0_1 rfl
  have v_0_1 := hF2.at g_0_1 rfl
  have u_0_9 := hF1.at g_0_9 rfl
  have v_0_9 := hF2.at g_0_9 rfl
  have u_2_1 := hF1.at g_2_1 rfl
  have v_2_1 := hF2.at g_2_1 rfl
  have u_0_5 := hF1.at g_0_5 rfl
  have v_0_5 := hF2.at g_0_5 rfl
  have u_0_11 := hF1.at g_0_11 rfl
  have v_0_11 := hF2.at g_0_11 rfl
  have u_739_27 := hF1.at g_739_27 rfl
  have v_739_27 := hF2.at g_739_27 rfl
  have u_739_13 := hF1.at g_739_13 rfl
  have v_739_13 := hF2.at g_739_13 rfl
  have u_739_1 := hF1.at g_739_1 rfl
  have v_739_1 := hF2.at g_739_1 rfl
  have u_739_29 := hF1.at g_739_29 rfl
  have v_739_29 := hF2.at g_739_29 rfl
  have u_739_21 := hF1.at g_739_21 rfl
  have v_739_21 := hF2.at g_739_21 rfl
  have hb := bf_0_1 hP
  have hA2 : TA (fun k => M2 1 k) (fun k => M2 755 k) (M2 0 1) := TA_mv hA (fun k => (hF2.at (ga_1 k) rfl).trans (hF1.at (ga_1 k) rfl)) (fun k => (hF2.at (ga_755 k) rfl).trans (hF1.at (ga_755 k) rfl)) (by omega)
  have hI2 : INV4 M2 (i + 6) := ⟨⟨hP2, by omega, y2, y3, by omega, by omega⟩, hA2, by omega, by omega, by omega, by omega⟩
  exact wk_is6 r0_808 rfl (wk_goto r0_810 (wk_inc4 r0_947 rfl (wk_goto r0_950 (wp_fg (le_s (le_s (le_s (le_s (le_s (le_n (le_n le_0))))))) (hk M2 hI2)))))
theorem r0_813 : Rw 0 813 814 1 14 1 0 0 := rw_of (by decide +kernel)
theorem r0_814 : Rw 0 814 817 3 100 20 1 149 := rw_of (by decide +kernel)
theorem kc_0_20 : Kc 0 20 := kc_of (by decide) (by decide +kernel)
theorem r0_817 : Rw 0 817 818 1 53 0 0 0 := rw_of (by decide +kernel)
theorem r0_818 : Rw 0 818 819 1 14 2 0 0 := rw_of (by decide +kernel)
theorem r0_819 : Rw 0 819 822 3 100 72 1 152 := rw_of (by decide +kernel)
theorem kc_739_72 : Kc 739 72 := kc_of (by decide) (by decide +kernel)
theorem r0_822 : Rw 0 822 823 1 53 0 0 0 := rw_of (by decide +kernel)
theorem r0_823 : Rw 0 823 826 3 60 947 0 0 := rw_of (by decide +kernel)
theorem law4_first {B : eB} {n i : Int} {d : Nat} {M : Mm} {Q : Nat → eV → Mm → Prop} (hB : SB B n) (h0 : 0 ≤ i) (h1 : i ≤ n - 6) (hI : INV4 M i) (hk : ∀ M2, INV4 M2 (i + 6) → Wp B (d + 50) 0 23 [some (R 4096), some (R 0), some (R 739), some (R 769), some (I (i + 6)), none, none] [] M2 Q) : Wp B (d + 50) 0 813 [some (R 4096), some (R 0), some (R 739), some (R 769), some (I i), none, none] [] M Q := by
  obtain ⟨⟨hP, hT, hW, hQW, hg0, hg9⟩, hA, i9, i2, i5, i11⟩ := hI
  refine wk_al1 r0_813 (wk_cv1 r0_814 kc_0_20 rfl (m20_0 _ M  hP ) (cqI ?_))
  rintro z1 M1 ⟨hP1, hF1, x0, x1⟩
  refine wk_popi r0_817 (wk_al2 r0_818 ?_)
  have hW1 : WS M1 := WS_sm (Sm.fr hF1 rfl) hW
  have hQ1 : QW M1 := QW_sm (Sm.fr hF1 rfl) hQW
  refine wk_cv1 r0_819 kc_739_72 rfl (m72_739 _ M1  hP1 ) (cqI ?_)
  rintro z2 M2 ⟨hP2, hF2, y0, y1⟩
  have hg2 := hF2.at g_below rfl
  have hg1 := hF1.at g_below rfl
  have u_0_1 := hF1.at g_0_1 rfl
  have v_0_1 := hF2.at g_0_1 rfl
  have u_0_9 := hF1.at g_0_9 rfl
  have v_0_9 := hF2.at g_0_9 rfl
  have u_2_1 := hF1.at g_2_1 rfl
  have v_2_1 := hF2.at g_2_1 rfl
  have u_0_5 := hF1.at g_0_5 rfl
  have v_0_5 := hF2.at g_0_5 rfl
  have u_0_11 := hF1.at g_0_11 rfl
  have v_0_11 := hF2.at g_0_11 rfl
  have u_739_27 := hF1.at g_739_27 rfl
  have v_739_27 := hF2.at g_739_27 rfl
  have u_739_13 := hF1.at g_739_13 rfl
  have v_739_13 := hF2.at g_739_13 rfl
  have u_739_1 := hF1.at g_739_1 rfl
  have v_739_1 := hF2.at g_739_1 rfl
  have u_739_29 := hF1.at g_739_29 rfl
  have v_739_29 := hF2.at g_739_29 rfl
  have u_739_21 := hF1.at g_739_21 rfl
  have v_739_21 := hF2.at g_739_21 rfl
  have hb := bf_0_1 hP
  have hA2 : TA (fun k => M2 1 k) (fun k => M2 755 k) (M2 0 1) := TA_mv hA (fun k => (hF2.at (ga_1 k) rfl).trans (hF1.at (ga_1 k) rfl)) (fun k => (hF2.at (ga_755 k) rfl).trans (hF1.at (ga_755 k) rfl)) (by omega)
  have hI2 : INV4 M2 (i + 6) := ⟨⟨hP2, by omega, WS_sm (Sm.fr hF2 rfl) hW1, QW_sm (Sm.fr hF2 rfl) hQ1, by omega, by omega⟩, hA2, by omega, by omega, by omega, by omega⟩
  exact wk_popi r0_822 (wk_goto r0_823 (wk_inc4 r0_947 rfl (wk_goto r0_950 (wp_fg (le_s (le_s (le_s (le_s (le_s (le_s (le_s le_0))))))) (hk M2 hI2)))))
theorem r0_826 : Rw 0 826 827 1 14 1 0 0 := rw_of (by decide +kernel)
theorem r0_827 : Rw 0 827 828 1 14 0 0 0 := rw_of (by decide +kernel)
theorem r0_828 : Rw 0 828 830 2 11 4 0 0 := rw_of (by decide +kernel)
theorem r0_830 : Rw 0 830 831 1 1 (cd 1) 2 0 := rw_of (by decide +kernel)
theorem r0_831 : Rw 0 831 832 1 30 0 0 0 := rw_of (by decide +kernel)
theorem r0_832 : Rw 0 832 833 1 97 0 0 0 := rw_of (by decide +kernel)
theorem r0_833 : Rw 0 833 834 1 14 0 0 0 := rw_of (by decide +kernel)
theorem r0_834 : Rw 0 834 836 2 11 4 0 0 := rw_of (by decide +kernel)
theorem r0_836 : Rw 0 836 837 1 1 (cd 2) 3 0 := rw_of (by decide +kernel)
theorem r0_837 : Rw 0 837 838 1 30 0 0 0 := rw_of (by decide +kernel)
theorem r0_838 : Rw 0 838 839 1 97 0 0 0 := rw_of (by decide +kernel)
theorem r0_839 : Rw 0 839 842 3 100 22 3 153 := rw_of (by decide +kernel)
theorem kc_0_22 : Kc 0 22 := kc_of (by decide) (by decide +kernel)
theorem r0_842 : Rw 0 842 843 1 53 0 0 0 := rw_of (by decide +kernel)
theorem r0_843 : Rw 0 843 844 1 14 2 0 0 := rw_of (by decide +kernel)
theorem r0_844 : Rw 0 844 845 1 14 0 0 0 := rw_of (by decide +kernel)
theorem r0_845 : Rw 0 845 847 2 11 4 0 0 := rw_of (by decide +kernel)
theorem r0_847 : Rw 0 847 848 1 1 (cd 1) 2 0 := rw_of (by decide +kernel)
theorem r0_848 : Rw 0 848 849 1 30 0 0 0 := rw_of (by decide +kernel)
theorem r0_849 : Rw 0 849 850 1 97 0 0 0 := rw_of (by decide +kernel)
theorem r0_850 : Rw 0 850 851 1 14 0 0 0 := rw_of (by decide +kernel)
theorem r0_851 : Rw 0 851 853 2 11 4 0 0 := rw_of (by decide +kernel)
theorem r0_853 : Rw 0 853 854 1 1 (cd 2) 3 0 := rw_of (by decide +kernel)
theorem r0_854 : Rw 0 854 855 1 30 0 0 0 := rw_of (by decide +kernel)
theorem r0_855 : Rw 0 855 856 1 97 0 0 0 := rw_of (by decide +kernel)
theorem r0_856 : Rw 0 856 859 3 100 78 3 157 := rw_of (by decide +kernel)
theorem kc_739_78 : Kc 739 78 := kc_of (by decide) (by decide +kernel)
theorem r0_859 : Rw 0 859 860 1 53 0 0 0 := rw_of (by decide +kernel)
theorem r0_860 : Rw 0 860 863 3 60 947 0 0 := rw_of (by decide +kernel)
theorem law4_hide {B : eB} {n i : Int} {d : Nat} {M : Mm} {Q : Nat → eV → Mm → Prop} (hB : SB B n) (h0 : 0 ≤ i) (h1 : i ≤ n - 6) (hI : INV4 M i) (hk : ∀ M2, INV4 M2 (i + 6) → Wp B (d + 50) 0 23 [some (R 4096), some (R 0), some (R 739), some (R 769), some (I (i + 6)), none, none] [] M2 Q) : Wp B (d + 50) 0 826 [some (R 4096), some (R 0), some (R 739), some (R 769), some (I i), none, none] [] M Q := by
  obtain ⟨⟨hP, hT, hW, hQW, hg0, hg9⟩, hA, i9, i2, i5, i11⟩ := hI
  refine wk_al1 r0_826 (wk_al0 r0_827 (wk_il4 r0_828 (wk_c1 r0_830 (wk_iadd r0_831 (wk_saldf hB r0_832 ⟨by omega, by omega⟩ ?_)))))
  intro a1 b1
  refine wk_al0 r0_833 (wk_il4 r0_834 (wk_c1 r0_836 (wk_iadd r0_837 (wk_saldf hB r0_838 ⟨by omega, by omega⟩ ?_))))
  intro a2 b2
  refine wk_cv3 r0_839 kc_0_22 rfl (m22_0 _ M (scf B (i + 1)) (scf B (i + 2)) hP (by omega) (by omega) (by omega) (by omega)) (cqI ?_)
  rintro z1 M1 ⟨hP1, hF1, x0, x1⟩
  refine wk_popi r0_842 (wk_al2 r0_843 (wk_al0 r0_844 (wk_il4 r0_845 (wk_c1 r0_847 (wk_iadd r0_848 (wk_saldf hB r0_849 ⟨by omega, by omega⟩ ?_))))))
  intro a3 b3
  refine wk_al0 r0_850 (wk_il4 r0_851 (wk_c1 r0_853 (wk_iadd r0_854 (wk_saldf hB r0_855 ⟨by omega, by omega⟩ ?_))))
  intro a4 b4
  have hW1 : WS M1 := WS_sm (Sm.fr hF1 rfl) hW
  have hQ1 : QW M1 := QW_sm (Sm.fr hF1 rfl) hQW
  refine wk_cv3 r0_856 kc_739_78 rfl (m78_739 _ M1 (scf B (i + 1)) (scf B (i + 2)) hP1 (by omega) (by omega) (by omega) (by omega)) (cqI ?_)
  rintro z2 M2 ⟨hP2, hF2, y0, y1⟩
  have hg2 := hF2.at g_below rfl
  have hg1 := hF1.at g_below rfl
  have u_0_1 := hF1.at g_0_1 rfl
  have v_0_1 := hF2.at g_0_1 rfl
  have u_0_9 := hF1.at g_0_9 rfl
  have v_0_9 := hF2.at g_0_9 rfl
  have u_2_1 := hF1.at g_2_1 rfl
  have v_2_1 := hF2.at g_2_1 rfl
  have u_0_5 := hF1.at g_0_5 rfl
  have v_0_5 := hF2.at g_0_5 rfl
  have u_0_11 := hF1.at g_0_11 rfl
  have v_0_11 := hF2.at g_0_11 rfl
  have u_739_27 := hF1.at g_739_27 rfl
  have v_739_27 := hF2.at g_739_27 rfl
  have u_739_13 := hF1.at g_739_13 rfl
  have v_739_13 := hF2.at g_739_13 rfl
  have u_739_1 := hF1.at g_739_1 rfl
  have v_739_1 := hF2.at g_739_1 rfl
  have u_739_29 := hF1.at g_739_29 rfl
  have v_739_29 := hF2.at g_739_29 rfl
  have u_739_21 := hF1.at g_739_21 rfl
  have v_739_21 := hF2.at g_739_21 rfl
  have hb := bf_0_1 hP
  have hA2 : TA (fun k => M2 1 k) (fun k => M2 755 k) (M2 0 1) := TA_mv hA (fun k => (hF2.at (ga_1 k) rfl).trans (hF1.at (ga_1 k) rfl)) (fun k => (hF2.at (ga_755 k) rfl).trans (hF1.at (ga_755 k) rfl)) (by omega)
  have hI2 : INV4 M2 (i + 6) := ⟨⟨hP2, by omega, WS_sm (Sm.fr hF2 rfl) hW1, QW_sm (Sm.fr hF2 rfl) hQ1, by omega, by omega⟩, hA2, by omega, by omega, by omega, by omega⟩
  exact wk_popi r0_859 (wk_goto r0_860 (wk_inc4 r0_947 rfl (wk_goto r0_950 (wp_fg (le_s (le_s (le_s (le_s (le_s (le_s (le_s le_0))))))) (hk M2 hI2)))))
theorem r0_863 : Rw 0 863 864 1 14 1 0 0 := rw_of (by decide +kernel)
theorem r0_864 : Rw 0 864 865 1 14 0 0 0 := rw_of (by decide +kernel)
theorem r0_865 : Rw 0 865 867 2 11 4 0 0 := rw_of (by decide +kernel)
theorem r0_867 : Rw 0 867 868 1 1 (cd 1) 2 0 := rw_of (by decide +kernel)
theorem r0_868 : Rw 0 868 869 1 30 0 0 0 := rw_of (by decide +kernel)
theorem r0_869 : Rw 0 869 870 1 97 0 0 0 := rw_of (by decide +kernel)
theorem r0_870 : Rw 0 870 871 1 14 3 0 0 := rw_of (by decide +kernel)
theorem r0_871 : Rw 0 871 874 3 113 258 3 158 := rw_of (by decide +kernel)
theorem r0_874 : Rw 0 874 876 2 17 5 0 0 := rw_of (by decide +kernel)
theorem r0_876 : Rw 0 876 877 1 14 2 0 0 := rw_of (by decide +kernel)
theorem r0_877 : Rw 0 877 878 1 14 0 0 0 := rw_of (by decide +kernel)
theorem r0_878 : Rw 0 878 880 2 11 4 0 0 := rw_of (by decide +kernel)
theorem r0_880 : Rw 0 880 881 1 1 (cd 1) 2 0 := rw_of (by decide +kernel)
theorem r0_881 : Rw 0 881 882 1 30 0 0 0 := rw_of (by decide +kernel)
theorem r0_882 : Rw 0 882 883 1 97 0 0 0 := rw_of (by decide +kernel)
theorem r0_883 : Rw 0 883 886 3 100 121 2 160 := rw_of (by decide +kernel)
theorem kc_739_121 : Kc 739 121 := kc_of (by decide) (by decide +kernel)
theorem r0_886 : Rw 0 886 888 2 17 6 0 0 := rw_of (by decide +kernel)
theorem r0_888 : Rw 0 888 891 3 60 947 0 0 := rw_of (by decide +kernel)
theorem law4_reply {B : eB} {n i : Int} {d : Nat} {M : Mm} {Q : Nat → eV → Mm → Prop} (hB : SB B n) (h0 : 0 ≤ i) (h1 : i ≤ n - 6) (hI : INV4 M i) (hk : ∀ M2, INV4 M2 (i + 6) → Wp B (d + 50) 0 23 [some (R 4096), some (R 0), some (R 739), some (R 769), some (I (i + 6)), none, none] [] M2 Q) : Wp B (d + 50) 0 863 [some (R 4096), some (R 0), some (R 739), some (R 769), some (I i), none, none] [] M Q := by
  obtain ⟨⟨hP, hT, hW, hQW, hg0, hg9⟩, hA, i9, i2, i5, i11⟩ := hI
  refine wk_al1 r0_863 (wk_al0 r0_864 (wk_il4 r0_865 (wk_c1 r0_867 (wk_iadd r0_868 (wk_saldf hB r0_869 ⟨by omega, by omega⟩ ?_)))))
  intro a1 b1
  refine wk_al3 r0_870 (wk_cs113_3 r0_871 rfl (lw_reply _ M (scf B (i + 1)) hP (by omega) (by omega)) (cqI ?_))
  rintro z1 M1 ⟨hP1, hF1, x0, x1, x2, x3⟩
  refine wk_is5 r0_874 rfl (wk_al2 r0_876 (wk_al0 r0_877 (wk_il4 r0_878 (wk_c1 r0_880 (wk_iadd r0_881 (wk_saldf hB r0_882 ⟨by omega, by omega⟩ ?_))))))
  intro a2 b2
  have hW1 : WS M1 := WS_sm (Sm.fr hF1 rfl) hW
  have hQ1 : QW M1 := QW_sm (Sm.fr hF1 rfl) hQW
  refine wk_cv2 r0_883 kc_739_121 rfl (m9121_739 _ M1 (scf B (i + 1)) (M1 739 13) (M1 739 21) hP1 (by omega) (by omega) rfl (bf_739_13 hP1).1 (bf_739_13 hP1).2 rfl (bf_739_21 hP1).1 (bf_739_21 hP1).2 hW1 hQ1) (cqI ?_)
  rintro z2 M2 ⟨hP2, hF2, y0, y1, y2, y3⟩
  have hg2 := hF2.at g_below rfl
  have hg1 : True := trivial
  have u_0_1 := hF1.at g_0_1 rfl
  have v_0_1 := hF2.at g_0_1 rfl
  have u_0_9 := hF1.at g_0_9 rfl
  have v_0_9 := hF2.at g_0_9 rfl
  have u_2_1 := hF1.at g_2_1 rfl
  have v_2_1 := hF2.at g_2_1 rfl
  have u_0_5 := hF1.at g_0_5 rfl
  have v_0_5 := hF2.at g_0_5 rfl
  have u_0_11 := hF1.at g_0_11 rfl
  have v_0_11 := hF2.at g_0_11 rfl
  have u_739_27 := hF1.at g_739_27 rfl
  have v_739_27 := hF2.at g_739_27 rfl
  have u_739_13 := hF1.at g_739_13 rfl
  have v_739_13 := hF2.at g_739_13 rfl
  have u_739_1 := hF1.at g_739_1 rfl
  have v_739_1 := hF2.at g_739_1 rfl
  have u_739_29 := hF1.at g_739_29 rfl
  have v_739_29 := hF2.at g_739_29 rfl
  have u_739_21 := hF1.at g_739_21 rfl
  have v_739_21 := hF2.at g_739_21 rfl
  have hb := bf_0_1 hP
  have hA2 : TA (fun k => M2 1 k) (fun k => M2 755 k) (M2 0 1) := TA_mv hA (fun k => (hF2.at (ga_1 k) rfl).trans (hF1.at (ga_1 k) rfl)) (fun k => (hF2.at (ga_755 k) rfl).trans (hF1.at (ga_755 k) rfl)) (by omega)
  have hI2 : INV4 M2 (i + 6) := ⟨⟨hP2, by omega, y2, y3, by omega, by omega⟩, hA2, by omega, by omega, by omega, by omega⟩
  exact wk_is6 r0_886 rfl (wk_goto r0_888 (wk_inc4 r0_947 rfl (wk_goto r0_950 (wp_fg (le_s (le_s (le_s (le_s (le_s (le_n (le_n le_0))))))) (hk M2 hI2)))))
theorem r0_891 : Rw 0 891 892 1 14 1 0 0 := rw_of (by decide +kernel)
theorem r0_892 : Rw 0 892 893 1 14 0 0 0 := rw_of (by decide +kernel)
theorem r0_893 : Rw 0 893 895 2 11 4 0 0 := rw_of (by decide +kernel)
theorem r0_895 : Rw 0 895 896 1 1 (cd 1) 2 0 := rw_of (by decide +kernel)
theorem r0_896 : Rw 0 896 897 1 30 0 0 0 := rw_of (by decide +kernel)
theorem r0_897 : Rw 0 897 898 1 97 0 0 0 := rw_of (by decide +kernel)
theorem r0_898 : Rw 0 898 899 1 14 3 0 0 := rw_of (by decide +kernel)
theorem r0_899 : Rw 0 899 902 3 113 259 3 161 := rw_of (by decide +kernel)
theorem r0_902 : Rw 0 902 904 2 17 5 0 0 := rw_of (by decide +kernel)
theorem r0_904 : Rw 0 904 905 1 14 2 0 0 := rw_of (by decide +kernel)
theorem r0_905 : Rw 0 905 906 1 14 0 0 0 := rw_of (by decide +kernel)
theorem r0_906 : Rw 0 906 908 2 11 4 0 0 := rw_of (by decide +kernel)
theorem r0_908 : Rw 0 908 909 1 1 (cd 1) 2 0 := rw_of (by decide +kernel)
theorem r0_909 : Rw 0 909 910 1 30 0 0 0 := rw_of (by decide +kernel)
theorem r0_910 : Rw 0 910 911 1 97 0 0 0 := rw_of (by decide +kernel)
theorem r0_911 : Rw 0 911 914 3 100 122 2 163 := rw_of (by decide +kernel)
theorem kc_739_122 : Kc 739 122 := kc_of (by decide) (by decide +kernel)
theorem r0_914 : Rw 0 914 916 2 17 6 0 0 := rw_of (by decide +kernel)
theorem r0_916 : Rw 0 916 919 3 60 947 0 0 := rw_of (by decide +kernel)
theorem law4_riddle {B : eB} {n i : Int} {d : Nat} {M : Mm} {Q : Nat → eV → Mm → Prop} (hB : SB B n) (h0 : 0 ≤ i) (h1 : i ≤ n - 6) (hI : INV4 M i) (hk : ∀ M2, INV4 M2 (i + 6) → Wp B (d + 50) 0 23 [some (R 4096), some (R 0), some (R 739), some (R 769), some (I (i + 6)), none, none] [] M2 Q) : Wp B (d + 50) 0 891 [some (R 4096), some (R 0), some (R 739), some (R 769), some (I i), none, none] [] M Q := by
  obtain ⟨⟨hP, hT, hW, hQW, hg0, hg9⟩, hA, i9, i2, i5, i11⟩ := hI
  refine wk_al1 r0_891 (wk_al0 r0_892 (wk_il4 r0_893 (wk_c1 r0_895 (wk_iadd r0_896 (wk_saldf hB r0_897 ⟨by omega, by omega⟩ ?_)))))
  intro a1 b1
  refine wk_al3 r0_898 (wk_cs113_3 r0_899 rfl (lw_riddle _ M (scf B (i + 1)) hP (by omega) (by omega)) (cqI ?_))
  rintro z1 M1 ⟨hP1, hF1, x0, x1, x2, x3⟩
  refine wk_is5 r0_902 rfl (wk_al2 r0_904 (wk_al0 r0_905 (wk_il4 r0_906 (wk_c1 r0_908 (wk_iadd r0_909 (wk_saldf hB r0_910 ⟨by omega, by omega⟩ ?_))))))
  intro a2 b2
  have hW1 : WS M1 := WS_sm (Sm.fr hF1 rfl) hW
  have hQ1 : QW M1 := QW_sm (Sm.fr hF1 rfl) hQW
  refine wk_cv2 r0_911 kc_739_122 rfl (m9122_739 _ M1 (scf B (i + 1)) (M1 739 13) (M1 739 7) (M1 739 1) hP1 (by omega) (by omega) rfl (bf_739_13 hP1).1 (bf_739_13 hP1).2 rfl (bf_739_7 hP1).1 (bf_739_7 hP1).2 rfl (bf_739_1 hP1).1 (bf_739_1 hP1).2 hW1 hQ1) (cqI ?_)
  rintro z2 M2 ⟨hP2, hF2, y0, y1, y2, y3⟩
  have hg2 := hF2.at g_below rfl
  have hg1 : True := trivial
  have u_0_1 := hF1.at g_0_1 rfl
  have v_0_1 := hF2.at g_0_1 rfl
  have u_0_9 := hF1.at g_0_9 rfl
  have v_0_9 := hF2.at g_0_9 rfl
  have u_2_1 := hF1.at g_2_1 rfl
  have v_2_1 := hF2.at g_2_1 rfl
  have u_0_5 := hF1.at g_0_5 rfl
  have v_0_5 := hF2.at g_0_5 rfl
  have u_0_11 := hF1.at g_0_11 rfl
  have v_0_11 := hF2.at g_0_11 rfl
  have u_739_27 := hF1.at g_739_27 rfl
  have v_739_27 := hF2.at g_739_27 rfl
  have u_739_13 := hF1.at g_739_13 rfl
  have v_739_13 := hF2.at g_739_13 rfl
  have u_739_1 := hF1.at g_739_1 rfl
  have v_739_1 := hF2.at g_739_1 rfl
  have u_739_29 := hF1.at g_739_29 rfl
  have v_739_29 := hF2.at g_739_29 rfl
  have u_739_21 := hF1.at g_739_21 rfl
  have v_739_21 := hF2.at g_739_21 rfl
  have hb := bf_0_1 hP
  have hA2 : TA (fun k => M2 1 k) (fun k => M2 755 k) (M2 0 1) := TA_mv hA (fun k => (hF2.at (ga_1 k) rfl).trans (hF1.at (ga_1 k) rfl)) (fun k => (hF2.at (ga_755 k) rfl).trans (hF1.at (ga_755 k) rfl)) (by omega)
  have hI2 : INV4 M2 (i + 6) := ⟨⟨hP2, by omega, y2, y3, by omega, by omega⟩, hA2, by omega, by omega, by omega, by omega⟩
  exact wk_is6 r0_914 rfl (wk_goto r0_916 (wk_inc4 r0_947 rfl (wk_goto r0_950 (wp_fg (le_s (le_s (le_s (le_s (le_s (le_n (le_n le_0))))))) (hk M2 hI2)))))
theorem r0_919 : Rw 0 919 920 1 14 1 0 0 := rw_of (by decide +kernel)
theorem r0_920 : Rw 0 920 921 1 14 0 0 0 := rw_of (by decide +kernel)
theorem r0_921 : Rw 0 921 923 2 11 4 0 0 := rw_of (by decide +kernel)
theorem r0_923 : Rw 0 923 924 1 1 (cd 1) 2 0 := rw_of (by decide +kernel)
theorem r0_924 : Rw 0 924 925 1 30 0 0 0 := rw_of (by decide +kernel)
theorem r0_925 : Rw 0 925 926 1 97 0 0 0 := rw_of (by decide +kernel)
theorem r0_926 : Rw 0 926 927 1 14 3 0 0 := rw_of (by decide +kernel)
theorem r0_927 : Rw 0 927 930 3 113 255 3 164 := rw_of (by decide +kernel)
theorem r0_930 : Rw 0 930 932 2 17 5 0 0 := rw_of (by decide +kernel)
theorem r0_932 : Rw 0 932 933 1 14 2 0 0 := rw_of (by decide +kernel)
theorem r0_933 : Rw 0 933 934 1 14 0 0 0 := rw_of (by decide +kernel)
theorem r0_934 : Rw 0 934 936 2 11 4 0 0 := rw_of (by decide +kernel)
theorem r0_936 : Rw 0 936 937 1 1 (cd 1) 2 0 := rw_of (by decide +kernel)
theorem r0_937 : Rw 0 937 938 1 30 0 0 0 := rw_of (by decide +kernel)
theorem r0_938 : Rw 0 938 939 1 97 0 0 0 := rw_of (by decide +kernel)
theorem r0_939 : Rw 0 939 942 3 100 105 2 166 := rw_of (by decide +kernel)
theorem kc_739_105 : Kc 739 105 := kc_of (by decide) (by decide +kernel)
theorem r0_942 : Rw 0 942 944 2 17 6 0 0 := rw_of (by decide +kernel)
theorem r0_944 : Rw 0 944 947 3 60 947 0 0 := rw_of (by decide +kernel)
theorem law4_line {B : eB} {n i : Int} {d : Nat} {M : Mm} {Q : Nat → eV → Mm → Prop} (hB : SB B n) (h0 : 0 ≤ i) (h1 : i ≤ n - 6) (hI : INV4 M i) (hk : ∀ M2, INV4 M2 (i + 6) → Wp B (d + 50) 0 23 [some (R 4096), some (R 0), some (R 739), some (R 769), some (I (i + 6)), none, none] [] M2 Q) : Wp B (d + 50) 0 919 [some (R 4096), some (R 0), some (R 739), some (R 769), some (I i), none, none] [] M Q := by
  obtain ⟨⟨hP, hT, hW, hQW, hg0, hg9⟩, hA, i9, i2, i5, i11⟩ := hI
  refine wk_al1 r0_919 (wk_al0 r0_920 (wk_il4 r0_921 (wk_c1 r0_923 (wk_iadd r0_924 (wk_saldf hB r0_925 ⟨by omega, by omega⟩ ?_)))))
  intro a1 b1
  refine wk_al3 r0_926 (wk_cs113_3 r0_927 rfl (lw_line _ M (scf B (i + 1)) hP (by omega) (by omega)) (cqI ?_))
  rintro z1 M1 ⟨hP1, hF1, x0, x1, x2, x3⟩
  refine wk_is5 r0_930 rfl (wk_al2 r0_932 (wk_al0 r0_933 (wk_il4 r0_934 (wk_c1 r0_936 (wk_iadd r0_937 (wk_saldf hB r0_938 ⟨by omega, by omega⟩ ?_))))))
  intro a2 b2
  have hW1 : WS M1 := WS_sm (Sm.fr hF1 rfl) hW
  have hQ1 : QW M1 := QW_sm (Sm.fr hF1 rfl) hQW
  refine wk_cv2 r0_939 kc_739_105 rfl (m105_739 _ M1 (scf B (i + 1)) hP1 (by omega) (by omega)) (cqI ?_)
  rintro z2 M2 ⟨hP2, hF2, y0, y1⟩
  have hg2 := hF2.at g_below rfl
  have hg1 : True := trivial
  have u_0_1 := hF1.at g_0_1 rfl
  have v_0_1 := hF2.at g_0_1 rfl
  have u_0_9 := hF1.at g_0_9 rfl
  have v_0_9 := hF2.at g_0_9 rfl
  have u_2_1 := hF1.at g_2_1 rfl
  have v_2_1 := hF2.at g_2_1 rfl
  have u_0_5 := hF1.at g_0_5 rfl
  have v_0_5 := hF2.at g_0_5 rfl
  have u_0_11 := hF1.at g_0_11 rfl
  have v_0_11 := hF2.at g_0_11 rfl
  have u_739_27 := hF1.at g_739_27 rfl
  have v_739_27 := hF2.at g_739_27 rfl
  have u_739_13 := hF1.at g_739_13 rfl
  have v_739_13 := hF2.at g_739_13 rfl
  have u_739_1 := hF1.at g_739_1 rfl
  have v_739_1 := hF2.at g_739_1 rfl
  have u_739_29 := hF1.at g_739_29 rfl
  have v_739_29 := hF2.at g_739_29 rfl
  have u_739_21 := hF1.at g_739_21 rfl
  have v_739_21 := hF2.at g_739_21 rfl
  have hb := bf_0_1 hP
  have hA2 : TA (fun k => M2 1 k) (fun k => M2 755 k) (M2 0 1) := TA_mv hA (fun k => (hF2.at (ga_1 k) rfl).trans (hF1.at (ga_1 k) rfl)) (fun k => (hF2.at (ga_755 k) rfl).trans (hF1.at (ga_755 k) rfl)) (by omega)
  have hI2 : INV4 M2 (i + 6) := ⟨⟨hP2, by omega, WS_sm (Sm.fr hF2 rfl) hW1, QW_sm (Sm.fr hF2 rfl) hQ1, by omega, by omega⟩, hA2, by omega, by omega, by omega, by omega⟩
  exact wk_is6 r0_942 rfl (wk_goto r0_944 (wk_inc4 r0_947 rfl (wk_goto r0_950 (wp_fg (le_s (le_s (le_s (le_s (le_s (le_n (le_n le_0))))))) (hk M2 hI2)))))
theorem r0_23 : Rw 0 23 25 2 11 4 0 0 := rw_of (by decide +kernel)
theorem r0_25 : Rw 0 25 26 1 14 0 0 0 := rw_of (by decide +kernel)
theorem r0_26 : Rw 0 26 27 1 98 0 0 0 := rw_of (by decide +kernel)
theorem r0_27 : Rw 0 27 29 2 2 (cd 6) 134 0 := rw_of (by decide +kernel)
theorem r0_29 : Rw 0 29 30 1 31 0 0 0 := rw_of (by decide +kernel)
theorem r0_30 : Rw 0 30 33 3 71 953 0 0 := rw_of (by decide +kernel)
theorem r0_33 : Rw 0 33 34 1 14 0 0 0 := rw_of (by decide +kernel)
theorem r0_34 : Rw 0 34 36 2 11 4 0 0 := rw_of (by decide +kernel)
theorem r0_36 : Rw 0 36 37 1 97 0 0 0 := rw_of (by decide +kernel)
theorem r0_37 : Rw 0 37 39 2 2 (cd 31) 159 0 := rw_of (by decide +kernel)
theorem r0_39 : Rw 0 39 40 1 33 0 0 0 := rw_of (by decide +kernel)
theorem r0_953 : Rw 0 953 954 1 1 (cd 1) 2 0 := rw_of (by decide +kernel)
theorem r0_954 : Rw 0 954 955 1 74 1 0 0 := rw_of (by decide +kernel)
theorem r0_40 : Rw 0 40 43 3 73 0 0 0 := rw_of (by decide +kernel)
theorem law4_loop {B : eB} {n : Int} (hB : SB B n) (d : Nat) {Q : Nat → eV → Mm → Prop} (hQ : ∀ M : Mm, 6 * M (-1) 0 ≤ 3072 → 0 ≤ M (-1) 0 → Q 1 (I 1) M) : ∀ (k : Nat) (i : Int) (M : Mm), (n - i).toNat = k → 0 ≤ i → i ≤ n → INV4 M i → Wp B (d + 50) 0 23 [some (R 4096), some (R 0), some (R 739), some (R 769), some (I i), none, none] [] M Q := by
  refine lp_ind ?_
  intro k ih i M hk h0 h1 hI
  have hn : n ≤ 3072 := hB.2.1
  refine wk_il4 r0_23 (wk_al0 r0_25 (wk_slen hB r0_26 (wk_c2 r0_27 (wk_isub r0_29 ?_))))
  refine wk_icgt r0_30 ⟨by omega, by omega⟩ ⟨by omega, by omega⟩ ?_ ?_
  · intro _
    exact wk_c1 r0_953 (wk_zret r0_954 (by decide) (hQ M (by have := hI.1.2.2.2.2.2; omega) hI.1.2.2.2.2.1))
  · intro h
    have hk2 : ∀ M2, INV4 M2 (i + 6) → Wp B (d + 50) 0 23 [some (R 4096), some (R 0), some (R 739), some (R 769), some (I (i + 6)), none, none] [] M2 Q := fun M2 h2 => ih (n - (i + 6)).toNat (by omega) (i + 6) M2 rfl (by omega) (by omega) h2
    refine wk_al0 r0_33 (wk_il4 r0_34 (wk_saldf hB r0_36 ⟨by omega, by omega⟩ ?_))
    intro q1 q2
    refine wk_c2 r0_37 (wk_iandc 5 32 r0_39 ⟨rfl, by decide⟩ rfl ?_)
    refine wk_sw0 r0_40 ⟨by omega, by omega⟩ ?_ ?_ ?_ ?_ ?_ ?_ ?_ ?_ ?_ ?_ ?_ ?_ ?_ ?_ ?_ ?_ ?_ ?_ ?_ ?_ ?_ ?_ ?_ ?_ ?_ ?_
    · intro _
      exact wk_inc4 r0_947 rfl (wk_goto r0_950 (hk2 M (INV4_on hI)))
    · intro _
      exact law4_feed hB h0 (by omega) hI hk2
    · intro _
      exact law4_island hB h0 (by omega) hI hk2
    · intro _
      exact law4_sentence hB h0 (by omega) hI hk2
    · intro _
      exact law4_fault hB h0 (by omega) hI hk2
    · intro _
      exact law4_count hB h0 (by omega) hI hk2
    · intro _
      exact law4_may hB h0 (by omega) hI hk2
    · intro _
      exact law4_says hB h0 (by omega) hI hk2
    · intro _
      exact law4_answers hB h0 (by omega) hI hk2
    · intro _
      exact law4_back hB h0 (by omega) hI hk2
    · intro _
      exact law4_worlds hB h0 (by omega) hI hk2
    · intro _
      exact law4_world hB h0 (by omega) hI hk2
    · intro _
      exact law4_told hB h0 (by omega) hI hk2
    · intro _
      exact law4_can hB h0 (by omega) hI hk2
    · intro _
      exact law4_could hB h0 (by omega) hI hk2
    · intro _
      exact law4_needless hB h0 (by omega) hI hk2
    · intro _
      exact law4_enough hB h0 (by omega) hI hk2
    · intro _
      exact law4_knots hB h0 (by omega) hI hk2
    · intro _
      exact law4_knot hB h0 (by omega) hI hk2
    · intro _
      exact law4_question hB h0 (by omega) hI hk2
    · intro _
      exact law4_fewest hB h0 (by omega) hI hk2
    · intro _
      exact law4_first hB h0 (by omega) hI hk2
    · intro _
      exact law4_hide hB h0 (by omega) hI hk2
    · intro _
      exact law4_reply hB h0 (by omega) hI hk2
    · intro _
      exact law4_riddle hB h0 (by omega) hI hk2
    · intro _
      exact law4_line hB h0 (by omega) hI hk2
