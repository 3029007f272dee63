/-! ===== the model's reader: good, or with a FAULT ===== -/
theorem z1_of {z : Int} (h0 : 0 ≤ z) (h1 : z ≤ 1) (h : ¬ z = 0) : z = 1 := by omega
theorem cbI_y {T : Int → Int} {n s : Int} (h : sgI T n s 40 = 1 ∨ nmI T n s = 1 ∨ kw T n s = 14 ∨ kw T n s = 18 ∨ kw T n s = 8 ∨ kw T n s = 19 ∨ kw T n s = 20 ∨ kw T n s = 21) : cbI T n s = 1 := if_pos h
theorem cbI_no {T : Int → Int} {n s : Int} (h1 : sgI T n s 40 ≠ 1) (h2 : nmI T n s ≠ 1) (h3 : kw T n s ≠ 14) (h4 : kw T n s ≠ 18) (h5 : kw T n s ≠ 8) (h6 : kw T n s ≠ 19) (h7 : kw T n s ≠ 20) (h8 : kw T n s ≠ 21) : cbI T n s ≠ 1 := by
  unfold cbI
  rw [if_neg (fun q => by rcases q with q | q | q | q | q | q | q | q <;> contradiction)]
  decide
def RG (T : Int → Int) (n pp : Int) (c : Cg) (ph d s k fk fp : Int) : Prop := (fk = 0 ∧ Rch T n pp c (ph, d, s, k)) ∨ (fk ≠ 0 ∧ Rch T n pp c (3, 0, fp, fk))
section RGs
variable {T : Int → Int} {n pp ph d s k fk fp d2 s2 k2 fk2 fp2 : Int} {c : Cg}
theorem RG_g (h : RG T n pp c ph d s k fk fp) (q : fk = 0) : Rch T n pp c (ph, d, s, k) := by
  rcases h with ⟨-, r⟩ | ⟨e, -⟩
  · exact r
  · exact absurd q e
theorem RG_b (h : RG T n pp c ph d s k fk fp) (q : fk ≠ 0) : Rch T n pp c (3, 0, fp, fk) := by
  rcases h with ⟨e, -⟩ | ⟨-, r⟩
  · exact absurd e q
  · exact r
theorem RG_mg (h : Rch T n pp c (ph, d, s, k)) (q : fk = 0) : RG T n pp c ph d s k fk fp := Or.inl ⟨q, h⟩
theorem RG_mb (h : Rch T n pp c (3, 0, fp, fk)) (q : fk ≠ 0) : RG T n pp c ph d s k fk fp := Or.inr ⟨q, h⟩
theorem deep_x (h : RG T n pp c 0 d s 0 fk fp) (hc : (fk ≠ 0 ∧ fk2 = fk ∧ fp2 = fp) ∨ (fk = 0 ∧ s2 = s ∧ ((cbI T n s = 1 ∧ d ≠ 6 ∧ fk2 = 0 ∧ d2 = d + 1) ∨ (cbI T n s = 1 ∧ d = 6 ∧ fk2 = 2 ∧ fp2 = s) ∨ (cbI T n s ≠ 1 ∧ fk2 = 1 ∧ fp2 = s)))) : RG T n pp c 1 d2 s2 0 fk2 fp2 := by
  rcases hc with ⟨a, b, e⟩ | ⟨a, b, hc⟩
  · rw [b, e]
    exact RG_mb (RG_b h a) a
  · have r := RG_g h a
    rcases hc with ⟨q, hd, e, e2⟩ | ⟨q, hd, e, e2⟩ | ⟨q, e, e2⟩
    · rw [b, e2]
      exact RG_mg (E_b r q hd rfl) e
    · exact RG_mb (E_6 r q hd e2 e) (by omega)
    · exact RG_mb (E_n r q e2 e) (by omega)
theorem deep_b (h : RG T n pp c 0 d s 0 fk fp) (a : fk ≠ 0) (b : fk2 = fk) (e : fp2 = fp) : RG T n pp c 1 d2 s2 0 fk2 fp2 := deep_x h (Or.inl ⟨a, b, e⟩)
theorem deep_6 (h : RG T n pp c 0 d s 0 fk fp) (a : fk = 0) (q : cbI T n s = 1) (hd : d = 6) (e : fk2 = 2) (e2 : fp2 = s) : RG T n pp c 1 d2 s 0 fk2 fp2 := deep_x h (Or.inr ⟨a, rfl, Or.inr (Or.inl ⟨q, hd, e, e2⟩)⟩)
theorem deep_n (h : RG T n pp c 0 d s 0 fk fp) (a : fk = 0) (q : cbI T n s ≠ 1) (e : fk2 = 1) (e2 : fp2 = s) : RG T n pp c 1 d2 s 0 fk2 fp2 := deep_x h (Or.inr ⟨a, rfl, Or.inr (Or.inr ⟨q, e, e2⟩)⟩)
theorem n106 {v1 : Int} (h : Rch T n pp c (1, d, s, k)) (q : nmI T n s = 1) (hc : (naE T n pp s ≠ 0 ∧ fk = naE T n pp s ∧ fp = s) ∨ (naE T n pp s = 0 ∧ v1 = nx T n s ∧ kw T n v1 ≠ 17 ∧ kw T n v1 ≠ 15 ∧ kw T n v1 ≠ 16 ∧ fk = 1 ∧ fp = v1)) : RG T n pp c 2 d2 s2 k2 fk fp := by
  rcases hc with ⟨a, e1, e2⟩ | ⟨a, e, q1, q2, q3, e1, e2⟩
  · exact RG_mb (N0 h q a e2 e1) (by omega)
  · exact RG_mb (N_n (N1 h q a e) q1 q2 q3 e2 e1) (by omega)
theorem n49 {v1 v2 : Int} (h : Rch T n pp c (stN T n pp d v1)) (q : kw T n v1 = 17) (e : v2 = nx T n v1) (q2 : sgI T n v2 40 ≠ 1) (e1 : fk = 1) (e2 : fp = v2) : RG T n pp c ph d2 s2 k2 fk fp := RG_mb (PX_0 (N_s h q e) q2 e2 e1) (by omega)
theorem a47 (h : Rch T n pp c (1, d, s, k)) (q1 : kw T n s ≠ 14) (q2 : sgI T n s 40 ≠ 1) (q3 : nmI T n s ≠ 1) (a1 : kw T n s ≠ 18 ∧ kw T n s ≠ 8 ∧ kw T n s ≠ 20 ∧ kw T n s ≠ 21 ∧ kw T n s ≠ 19) (e1 : fk = 1) (e2 : fp = s) : RG T n pp c ph d2 s2 k2 fk fp := RG_mb (A_n h q1 q2 q3 a1.1 a1.2.1 a1.2.2.1 a1.2.2.2.1 a1.2.2.2.2 e2 e1) (by omega)
theorem a114 {v1 v2 : Int} (h : Rch T n pp c (stM T n d v1)) (hc : (kdE T n v1 ≠ 0 ∧ fk = kdE T n v1 ∧ fp = v1) ∨ (kdE T n v1 = 0 ∧ v2 = nx T n v1 ∧ sgI T n v2 60 ≠ 1 ∧ sgI T n v2 61 ≠ 1 ∧ sgI T n v2 62 ≠ 1 ∧ fk = 1 ∧ fp = v2)) : RG T n pp c ph d2 s2 k2 fk fp := by
  rcases hc with ⟨a, b, e⟩ | ⟨a, e, q1, q2, q3, b, e2⟩
  · exact RG_mb (M_k h a e b) (by omega)
  · subst e
    rw [stM_s a (by omega)] at h
    rw [b, e2]
    exact RG_mb h (by decide)
theorem a235m {v1 v2 v3 v4 : Int} (h : Rch T n pp c (stM T n d v1)) (a : kdE T n v1 = 0) (e : v2 = nx T n v1) (q : sgI T n v2 60 = 1 ∨ sgI T n v2 61 = 1 ∨ sgI T n v2 62 = 1) (e3 : v3 = nx T n v2) (hc : (nuE T n v3 0 99 = 0 ∧ fk = 0 ∧ v4 = nx T n v3) ∨ (nuE T n v3 0 99 ≠ 0 ∧ fk = nuE T n v3 0 99 ∧ fp = v3)) : RG T n pp c 2 d v4 0 fk fp := by
  subst e
  subst e3
  rcases hc with ⟨a2, b, e4⟩ | ⟨a2, b, e4⟩
  · rw [stM_0 a q a2] at h
    rw [e4]
    exact RG_mg h b
  · rw [stM_e a q a2] at h
    rw [b, e4]
    exact RG_mb h a2
variable {more ha : Int}
/-- at expression's loop -/
def EXI (T : Int → Int) (n pp : Int) (c : Cg) (more d s fk fp : Int) : Prop := RG T n pp c 2 d s 0 fk fp ∧ (more = 1 ∨ fk ≠ 0 ∨ (kw T n s ≠ 12 ∧ kw T n s ≠ 13 ∧ (sgI T n s 41 ≠ 1 ∨ d ≤ 1)))
theorem e98 (h : EXI T n pp c more d s fk fp) (q0 : fk = 0) (q : kw T n s = 12 ∨ kw T n s = 13) (e : s2 = nx T n s) (e2 : fk2 = 0) : RG T n pp c 1 d s2 0 fk2 fp2 := RG_mg (X_o (RG_g h.1 q0) q e) e2
theorem e182 (h : EXI T n pp c more d s fk fp) (q0 : fk = 0) (q : sgI T n s 41 = 1) (hd : ¬ d ≤ 1) (e : s2 = nx T n s) (ed : d2 = d - 1) (e2 : fk2 = 0) : RG T n pp c 2 d2 s2 0 fk2 fp2 := RG_mg (X_c (RG_g h.1 q0) hd q e ed) e2
end RGs
/-- what a call of sentence(p1) answers: tp bytes on the tape, cnt SENTENCES, pp PEOPLE, fp the place of the latest FAULT -/
def SNR (T : Int → Int) (p1 tp cnt pp fp thr z cnt2 fp2 : Int) : Prop := ((p1 < 0 ∨ tp < p1) ∧ thr = 1 ∧ cnt2 = cnt ∧ fp2 = fp) ∨ (0 ≤ p1 ∧ p1 ≤ tp ∧ thr = 0 ∧ ((cnt = 30 ∧ z = -9 ∧ cnt2 = cnt ∧ fp2 = -1) ∨ (cnt ≠ 30 ∧ ∃ r, SO T p1 pp r fp2 ∧ ((r = 0 ∧ z = cnt ∧ cnt2 = cnt + 1) ∨ (r ≠ 0 ∧ z = -1 - r ∧ cnt2 = cnt)))))
theorem SNR_one {T : Int → Int} {p1 tp cnt pp fp thr z cnt2 fp2 thr' z' cnt2' fp2' : Int} (h1 : SNR T p1 tp cnt pp fp thr z cnt2 fp2) (h2 : SNR T p1 tp cnt pp fp thr' z' cnt2' fp2') : thr = thr' ∧ cnt2 = cnt2' ∧ fp2 = fp2' ∧ (thr = 0 → z = z') := by
  rcases h1 with ⟨a1, a2, a3, a4⟩ | ⟨a1, a2, a3, h1⟩
  · rcases h2 with ⟨b1, b2, b3, b4⟩ | ⟨b1, b2, b3, h2⟩
    · omega
    · clear h2; omega
  · rcases h2 with ⟨b1, b2, b3, b4⟩ | ⟨b1, b2, b3, h2⟩
    · clear h1; omega
    · rcases h1 with ⟨c1, c2, c3, c4⟩ | ⟨c1, r, c2, c3⟩
      · rcases h2 with ⟨d1, d2, d3, d4⟩ | ⟨d1, r2, d2, d3⟩
        · omega
        · omega
      · rcases h2 with ⟨d1, d2, d3, d4⟩ | ⟨d1, r2, d2, d3⟩
        · omega
        · have e := SO_one c2 d2
          omega
theorem SNR_t {T : Int → Int} {p1 tp cnt pp fp thr z cnt2 fp2 : Int} (h : (p1 < 0 ∨ tp < p1) ∧ thr = 1 ∧ cnt2 = cnt ∧ fp2 = fp) : SNR T p1 tp cnt pp fp thr z cnt2 fp2 := Or.inl h
theorem SNR_9 {T : Int → Int} {p1 tp cnt pp fp thr z cnt2 fp2 : Int} (h : 0 ≤ p1 ∧ p1 ≤ tp ∧ thr = 0 ∧ cnt = 30 ∧ z = -9 ∧ cnt2 = cnt ∧ fp2 = -1) : SNR T p1 tp cnt pp fp thr z cnt2 fp2 := Or.inr ⟨h.1, h.2.1, h.2.2.1, Or.inl h.2.2.2⟩
theorem SNR_r {T : Int → Int} {p1 tp cnt pp fp thr z cnt2 fp2 r : Int} (hs : SO T p1 pp r fp2) (h : 0 ≤ p1 ∧ p1 ≤ tp ∧ thr = 0 ∧ cnt ≠ 30 ∧ ((r = 0 ∧ z = cnt ∧ cnt2 = cnt + 1) ∨ (r ≠ 0 ∧ z = -1 - r ∧ cnt2 = cnt))) : SNR T p1 tp cnt pp fp thr z cnt2 fp2 := Or.inr ⟨h.1, h.2.1, h.2.2.1, Or.inr ⟨h.2.2.2.1, r, hs, h.2.2.2.2⟩⟩
/-- the model's end of a sentence: behind expression and ends -/
theorem SO_m {T : Int → Int} {n m pp s0 s fk fp s2 r pl : Int} (h : RG T n pp (0, 0, s0, 0) 4 0 s 0 fk fp) (e9 : n = m) (e0 : s0 = sk T m 0)
    (hc : (fk ≠ 0 ∧ r = fk ∧ pl = fp) ∨ (fk = 0 ∧ sgI T n s 59 ≠ 1 ∧ r = 1 ∧ pl = s) ∨ (fk = 0 ∧ sgI T n s 59 = 1 ∧ s2 = nx T n s ∧ tt T n s2 ≠ 0 ∧ r = 1 ∧ pl = s2) ∨ (fk = 0 ∧ sgI T n s 59 = 1 ∧ s2 = nx T n s ∧ tt T n s2 = 0 ∧ r = 0 ∧ pl = -1)) : SO T m pp r pl := by
  subst e0
  rcases hc with ⟨a, b, e⟩ | ⟨a, q, b, e⟩ | ⟨a, q, e, t, b, e2⟩ | ⟨a, q, e, t, b, e2⟩
  · exact SO_f (RG_b h a) e9 e b
  · exact SO_3 (RG_g h a) e9 q e b
  · exact SO_2 (RG_g h a) e9 q e t e2 b
  · exact SO_1 (RG_g h a) e9 q e t e2 b
