/-! ===== the class's steps, with what the reader puts down ===== -/
def fg_CLe : Nat := 39191576576
def fg_OCe : Nat := 39191576576
def CL (M : Mm) (c : Int) : List Int := (List.range (M c 1).toNat).map (fun k : Nat => M (c + 1) k)
/-- the steps that the parser writes -/
def CLm (M : Mm) : List Int := CL M (M 6 2)
def CLe (M : Mm) (L : List Int) : Prop := isC (M 6 2) ∧ CLm M = L
theorem CL_len (M : Mm) (c : Int) : (CL M c).length = (M c 1).toNat := by
  unfold CL
  rw [List.length_map, List.length_range]
theorem CL_cg {M M2 : Mm} {c : Int} (h1 : M2 c 1 = M c 1) (h2 : ∀ k : Int, M2 (c + 1) k = M (c + 1) k) : CL M2 c = CL M c := by
  unfold CL
  rw [h1]
  exact List.map_congr_left fun k _ => h2 k
theorem CL_add {M M1 M2 : Mm} {c n x : Int} (h1 : M c 1 = n) (h0 : 0 ≤ n) (e1 : M1 = mUp M (c + 1) n x) (e2 : M2 = mUp M1 c 1 (n + 1)) : CL M2 c = CL M c ++ [x] := by
  have a1 : M2 c 1 = n + 1 := mUp_at e2
  have a2 : ∀ k : Int, M2 (c + 1) k = M1 (c + 1) k := fun k => by rw [e2, mUp_ne (Or.inl (by omega))]
  unfold CL
  rw [a1, h1, show (n + 1).toNat = n.toNat + 1 by omega, List.range_succ, List.map_append]
  congr 1
  · refine List.map_congr_left fun k hk => ?_
    have := List.mem_range.mp hk
    rw [a2, e1, mUp_ne (Or.inr (by omega))]
  · show [M2 (c + 1) ((n.toNat : Nat) : Int)] = [x]
    rw [a2, show ((n.toNat : Nat) : Int) = n by omega, e1, mUp_eq]
theorem CL_0 {M : Mm} {c : Int} (h : M c 1 = 0) : CL M c = [] := by
  unfold CL
  rw [h]
  rfl
theorem CLe_sm {M M2 : Mm} {L : List Int} (h : Sm fg_CLe M M2) (p : CLe M L) : CLe M2 L := by
  obtain ⟨hc, e⟩ := p
  have e0 : M2 6 2 = M 6 2 := h.at g_6_2 rfl
  refine ⟨by rw [e0]; exact hc, ?_⟩
  unfold CLm at e ⊢
  rw [e0, CL_cg (h.at (g_c1 hc) rfl) (fun k => h.at (g_cs hc k) rfl)]
  exact e
theorem CLe_lt {M : Mm} {L : List Int} {c : Int} (h : CLe M L) (e : M 6 2 = c) (hl : (L.length : Int) < 256) : M c 1 < 256 := by
  have h1 := CL_len M c
  have h2 := h.2
  unfold CLm at h2
  rw [e] at h2
  rw [h2] at h1
  omega
theorem CLe_add {M M2 : Mm} {L : List Int} {c x : Int} (h : CLe M L) (e1 : M 6 2 = c) (e2 : M2 6 2 = c) (hl : (L.length : Int) < 256) (hx : M c 1 < 256 → CL M2 c = CL M c ++ [x]) : CLe M2 (L ++ [x]) := by
  have h2 := hx (CLe_lt h e1 hl)
  obtain ⟨hc, h⟩ := h
  refine ⟨by rw [e2, ← e1]; exact hc, ?_⟩
  unfold CLm at h ⊢
  rw [e2, h2, ← e1, h]
theorem CLe_len {M : Mm} {L : List Int} {t : Int} (h : CLe M L) (hl : 2 * (L.length : Int) ≤ t) : 2 * ((CLm M).length : Int) ≤ t := by
  rw [h.2]
  exact hl
/-- the others' steps stay -/
theorem CL_ot1 {M1 M2 : Mm} {c0 i y : Int} (h0 : isC c0) (e : M2 = mUp M1 c0 i y) : ∀ c : Int, isC c → c ≠ c0 → CL M2 c = CL M1 c := fun c hc hn => by
  unfold isC at h0 hc
  exact CL_cg (by rw [e, mUp_ne (Or.inl hn)]) (fun k => by rw [e, mUp_ne (Or.inl (by omega))])
theorem CL_oth {M0 M1 M2 : Mm} {c0 n x i y : Int} (h0 : isC c0) (e1 : M1 = mUp M0 (c0 + 1) n x) (e2 : M2 = mUp M1 c0 i y) : ∀ c : Int, isC c → c ≠ c0 → CL M2 c = CL M0 c := fun c hc hn => by
  refine (CL_ot1 h0 e2 c hc hn).trans ?_
  unfold isC at h0 hc
  exact CL_cg (by rw [e1, mUp_ne (Or.inl (by omega))]) (fun k => by rw [e1, mUp_ne (Or.inl (by omega))])
def OCe (M M0 : Mm) : Prop := M 6 2 = M0 6 2 ∧ ∀ c : Int, isC c → c ≠ M0 6 2 → CL M c = CL M0 c
theorem OCe_rf (M : Mm) : OCe M M := ⟨rfl, fun _ _ _ => rfl⟩
theorem OCe_tr {M2 M1 M0 : Mm} (h : OCe M2 M1) (h0 : OCe M1 M0) : OCe M2 M0 := ⟨h.1.trans h0.1, fun c hc hn => (h.2 c hc (by rw [h0.1]; exact hn)).trans (h0.2 c hc hn)⟩
theorem OCe_sm {M M2 M0 : Mm} (h : Sm fg_OCe M M2) (p : OCe M M0) : OCe M2 M0 := ⟨(h.at g_6_2 rfl).trans p.1, fun c hc hn => (CL_cg (h.at (g_c1 hc) rfl) (fun k => h.at (g_cs hc k) rfl)).trans (p.2 c hc hn)⟩
theorem OCe_ad {M M0 : Mm} {v : Int} (h : M 6 2 = M0 6 2) (e : M0 6 2 = v) (hx : ∀ c : Int, isC c → c ≠ v → CL M c = CL M0 c) : OCe M M0 := ⟨h, fun c hc hn => hx c hc (by rw [← e]; exact hn)⟩
theorem CL0_len {M : Mm} {c : Int} (h : CL M c = []) : (M c 1).toNat = 0 := by rw [← CL_len, h]; rfl
theorem CL0_lt {M : Mm} {c : Int} (h : CL M c = []) : M c 1 < 256 := by
  have := CL0_len h
  omega
theorem ntw_t {k : Int} (h : 0 ≤ k) (w : List Int) : ntw (k + 1).toNat w = 10 :: ntw k.toNat w := by
  rw [show (k + 1).toNat = k.toNat + 1 by omega]
  rfl
theorem mkb_if {n b : Int} (h1 : b ≤ n) (h2 : b ≤ 8) (h3 : b = n ∨ b = 8) : (if n ≤ 8 then n else 8) = b := by split <;> omega
theorem mkb_lt {n b v : Int} (h1 : b ≤ n) (h2 : b ≤ 8) (h3 : b = n ∨ b = 8) (e : v = pw b) : (v - 1) % 256 = mkb 60 n % 256 := by
  unfold mkb
  rw [if_pos rfl, mkb_if h1 h2 h3, e]
theorem mkb_eq {n b v : Int} (h1 : b ≤ n) (h2 : b ≤ 8) (h3 : b = n ∨ b = 8) (e : v = pw b) : v % 256 = mkb 61 n % 256 := by
  unfold mkb
  rw [if_neg (by decide), if_neg (by decide), mkb_if h1 h2 h3, e]
  omega
theorem mkb_gt {n b z : Int} (h1 : b ≤ n) (h2 : b ≤ 8) (h3 : b = n ∨ b = 8) (e : z = (-1 * pw (b + 1) + 2147483648) % 4294967296 - 2147483648) : z % 256 = mkb 62 n % 256 := by
  unfold mkb
  rw [if_neg (by decide), if_pos rfl, mkb_if h1 h2 h3, e]
  omega
theorem len1 (L : List Int) (x : Int) : ((L ++ [x]).length : Int) = L.length + 1 := by
  rw [List.length_append]
  rfl
theorem len2 (L L2 : List Int) : ((L ++ L2).length : Int) = (L.length : Int) + L2.length := by
  rw [List.length_append]
  omega
/-- behind an operand: what was put down from o on, of that strength, and the steps from C0 on mean the same -/
def XN (T : Int → Int) (n pp : Int) (c0 : Cg) (z0 : Og) (d s : Int) (o w : List Int) (l : Int) (C0 C : List Int) (g s0 : Int) : Prop := ∃ O1 Cx Ox, RQ T n pp (c0, z0) ((2, d, s, 0), O1) ∧ drp l O1.2 O1.1 = (o ++ Ox, w) ∧ C = C0 ++ Cx ∧ EQ pp Cx Ox g ∧ 2 * (Cx.length : Int) ≤ s - s0
/-- behind a parenthesis that b opened -/
def XP (T : Int → Int) (n pp : Int) (c0 : Cg) (z0 : Og) (d s : Int) (o w : List Int) (b : Int) (C0 C : List Int) (g s0 : Int) : Prop := ∃ Cx Ox, RQ T n pp (c0, z0) ((2, d, s, 0), (if 14 < b then o ++ Ox ++ [13 + 16 * (b / 16 - 1)] else o ++ Ox, w)) ∧ C = C0 ++ Cx ∧ EQ pp Cx Ox g ∧ 2 * (Cx.length : Int) ≤ s - s0
def AXx (T : Int → Int) (n pp : Int) (c0 : Cg) (z0 : Og) (d m v : Int) (o w : List Int) (s0 : Int) : Prop := ∃ s k, kw T n s ≠ 14 ∧ sgI T n s 40 ≠ 1 ∧ nmI T n s ≠ 1 ∧ ((kw T n s = 18 ∧ m = 3) ∨ (kw T n s = 8 ∧ m = 6) ∨ (kw T n s = 20 ∧ m = 1) ∨ (kw T n s = 21 ∧ m = 99)) ∧ v = nx T n s ∧ s0 + 2 ≤ v ∧ RQ T n pp (c0, z0) ((1, d, s, k), (o, w))
def MXx (T : Int → Int) (n pp : Int) (c0 : Cg) (z0 : Og) (d k v p f : Int) (o w : List Int) (s0 : Int) : Prop := (k = -1 → Rch T n pp c0 (3, 0, p, f)) ∧ (k ≠ -1 → ∃ s q, sgI T n s 40 ≠ 1 ∧ nmI T n s ≠ 1 ∧ kw T n s = 19 ∧ kdE T n (nx T n s) = 0 ∧ kdI T n (nx T n s) = k ∧ v = nx T n (nx T n s) ∧ s0 + 2 ≤ v ∧ RQ T n pp (c0, z0) ((1, d, s, q), (o, w)))
def PXx (T : Int → Int) (n pp : Int) (c0 : Cg) (z0 : Og) (d v : Int) (o w : List Int) (b : Int) : Prop := (sgI T n v 40 = 1 → RQ T n pp (c0, z0) ((0, d, nx T n v, 0), (o, b :: w))) ∧ (sgI T n v 40 ≠ 1 → Rch T n pp c0 (3, 0, v, 1))
theorem naE_lt {T : Int → Int} {n pp s : Int} (h : naE T n pp s = 0) : T s - 97 < pp := by
  unfold naE at h
  split at h
  · split at h
    · assumption
    · cases h
  · cases h
section XNs
variable {T : Int → Int} {n pp d s k v g s0 m : Int} {c0 : Cg} {z0 : Og} {o w C C0 : List Int}
theorem XN_r {l : Int} (h : XN T n pp c0 z0 d s o w l C0 C g s0) : Rch T n pp c0 (2, d, s, 0) := by
  obtain ⟨O1, Cx, Ox, r, -⟩ := h
  exact r.r
theorem XN_cl {l : Int} (h : XN T n pp c0 z0 d s o w l C0 C g s0) : ∃ Cx : List Int, C = C0 ++ Cx ∧ 2 * (Cx.length : Int) ≤ s - s0 := by
  obtain ⟨O1, Cx, Ox, -, -, h3, -, h5⟩ := h
  exact ⟨Cx, h3, h5⟩
theorem XN_len {l : Int} (h : XN T n pp c0 z0 d s o w l C0 C g s0) : 2 * (C.length : Int) ≤ 2 * (C0.length : Int) + (s - s0) := by
  obtain ⟨Cx, e, h5⟩ := XN_cl h
  rw [e, len2]
  omega
theorem XP_len {b : Int} (h : XP T n pp c0 z0 d s o w b C0 C g s0) : 2 * (C.length : Int) ≤ 2 * (C0.length : Int) + (s - s0) := by
  obtain ⟨Cx, Ox, -, e, -, h5⟩ := h
  rw [e, len2]
  omega
theorem XN_c {l s2 g2 : Int} {C2 : List Int} (h : XN T n pp c0 z0 d s o w l C0 C g s0) (e : s2 = s) (e2 : C2 = C) (hg : g ≤ g2) : XN T n pp c0 z0 d s2 o w l C0 C2 g2 s0 := by
  obtain ⟨O1, Cx, Ox, h1, h2, h3, h4, h5⟩ := h
  rw [e, e2]
  exact ⟨O1, Cx, Ox, h1, h2, h3, EQ_mono h4 hg, h5⟩
theorem XN_at {x y : Int} (h : RQ T n pp (c0, z0) ((2, d, s, 0), (o ++ [y], w))) (he : EQ pp [x] [y] 1) (hC : C = C0 ++ [x]) (hg : 1 ≤ g) (hs : s0 + 2 ≤ s) : XN T n pp c0 z0 d s o w 4 C0 C g s0 :=
  ⟨(o ++ [y], w), [x], [y], h, fix_4 w _, hC, EQ_mono he hg, by show 2 * ((1 : Nat) : Int) ≤ s - s0; omega⟩
theorem AXx_r (h : AXx T n pp c0 z0 d m v o w s0) : AX T n pp c0 d m v := by
  obtain ⟨s, k, q1, q2, q3, q, e, -, r⟩ := h
  exact A1 r.r q1 q2 q3 q e
theorem AXx_mk (h : RQ T n pp (c0, z0) ((1, d, s, k), (o, w))) (q1 : kw T n s ≠ 14) (q2 : sgI T n s 40 ≠ 1) (q3 : nmI T n s ≠ 1) (q : (kw T n s = 18 ∧ m = 3) ∨ (kw T n s = 8 ∧ m = 6) ∨ (kw T n s = 20 ∧ m = 1) ∨ (kw T n s = 21 ∧ m = 99)) (e : v = nx T n s) (hs : s0 + 2 ≤ v) : AXx T n pp c0 z0 d m v o w s0 := ⟨s, k, q1, q2, q3, q, e, hs, h⟩
theorem XN_row {rb x : Int} (h : AXx T n pp c0 z0 d m v o w s0) (hn : nuE T n v 0 m = 0) (e : s = nx T n v) (hk : k = vlI T n v) (k0 : 0 ≤ k) (hm : (m = 3 ∧ rb = 35) ∨ (m = 6 ∧ rb = 39) ∨ (m = 1 ∧ rb = 46)) (hC : C = C0 ++ [x]) (hx : x = 8 * (rb + k)) (hg : 1 ≤ g) (hs : v ≤ s) : XN T n pp c0 z0 d s o w 4 C0 C g s0 := by
  obtain ⟨sp, kp, q1, q2, q3, q, e1, hl, r⟩ := h
  have r2 := yA r q1 q2 q3 q e1 hn e
  have hu := nuE_c T n v 0 m
  rw [← hk] at r2
  rw [hx] at hC
  rcases hm with ⟨rfl, rfl⟩ | ⟨rfl, rfl⟩ | ⟨rfl, rfl⟩
  · exact XN_at r2 (EQ_road k0 (by omega)) hC hg (by omega)
  · exact XN_at r2 (EQ_day k0 (by omega)) hC hg (by omega)
  · exact XN_at r2 (EQ_word k0 (by omega)) hC hg (by omega)
theorem XN_told {x : Int} (h : AXx T n pp c0 z0 d 99 v o w s0) (hn : nuE T n v 0 99 = 0) (e : s = nx T n v) (hk : k = vlI T n v) (k0 : 0 ≤ k) (hC : C = C0 ++ [x]) (hx : x = 8 * (if k < 15 then 102 + k else 117)) (hg : 1 ≤ g) (hs : v ≤ s) : XN T n pp c0 z0 d s o w 4 C0 C g s0 := by
  obtain ⟨sp, kp, q1, q2, q3, q, e1, hl, r⟩ := h
  have r2 := yA r q1 q2 q3 q e1 hn e
  have hu := nuE_c T n v 0 99
  rw [← hk] at r2
  have ea : acN 99 = 9 := by decide
  rw [ea] at r2
  rw [hx] at hC
  by_cases q9 : k < 15
  · rw [if_pos q9] at hC
    exact XN_at r2 (EQ_told k0 (by omega)) hC hg (by omega)
  · rw [if_neg q9] at hC
    exact XN_at r2 (EQ_told9 (by omega) (by omega)) hC hg (by omega)
theorem MXx_r {p f : Int} (h : MXx T n pp c0 z0 d k v p f o w s0) : MX T n pp c0 d k v p f := by
  refine ⟨h.1, fun q => ?_⟩
  obtain ⟨s, j, q2, q3, q4, q5, q6, e, -, r⟩ := h.2 q
  exact ⟨nx T n s, q5, e, A_m r.r q2 q3 q4 rfl⟩
theorem MXx_mk {s1 j p f : Int} (h : RQ T n pp (c0, z0) ((1, d, s, j), (o, w))) (q2 : sgI T n s 40 ≠ 1) (q3 : nmI T n s ≠ 1) (q : kw T n s = 19) (e1 : s1 = nx T n s) (h1 : (k = -1 ∧ kdE T n s1 ≠ 0 ∧ p = s1 ∧ f = kdE T n s1) ∨ (k ≠ -1 ∧ kdE T n s1 = 0 ∧ kdI T n s1 = k ∧ v = nx T n s1 ∧ s0 + 2 ≤ v)) : MXx T n pp c0 z0 d k v p f o w s0 := by
  subst e1
  rcases h1 with ⟨a, b, e1, e2⟩ | ⟨a, b, b2, e, hl⟩
  · exact ⟨fun _ => M_k (A_m h.r q2 q3 q rfl) b e1 e2, fun x => absurd a x⟩
  · exact ⟨fun x => absurd x a, fun _ => ⟨s, j, q2, q3, q, b, b2, e, hl, h⟩⟩
theorem XN_many {p f sg v2 nn c x : Int} (h : MXx T n pp c0 z0 d k v p f o w s0) (q : k ≠ -1) (hsg : (sg = 60 ∧ sgI T n v 60 = 1) ∨ (sg = 61 ∧ sgI T n v 61 = 1) ∨ (sg = 62 ∧ sgI T n v 62 = 1)) (e2 : v2 = nx T n v) (hn : nuE T n v2 0 99 = 0) (hk : nn = vlI T n v2) (n0 : 0 ≤ nn) (e3 : s = nx T n v2) (hC : C = C0 ++ [x]) (hx : x = 6 + 8 * (k * 256 + c)) (hc : c = mkb sg nn % 256) (hg : 1 ≤ g) (hs : v ≤ s) : XN T n pp c0 z0 d s o w 4 C0 C g s0 := by
  obtain ⟨sp, kp, q1, q2, q3, q4, q5, e1, hl, r⟩ := h.2 q
  have hkb : 0 ≤ k ∧ k ≤ 4 := by
    have := kdI_c T n (nx T n sp)
    omega
  have hu := nuE_c T n v2 0 99
  have r2 := yM r q1 q2 q3 rfl q4 e1 (by omega) e2 hn e3
  rw [q5, ← hk] at r2
  have ha : (sg = 60 ∧ actS T n v = 5) ∨ (sg = 61 ∧ actS T n v = 6) ∨ (sg = 62 ∧ actS T n v = 7) := by
    unfold actS
    have a1 := sgI_c T n v 60
    have a2 := sgI_c T n v 61
    have a3 := sgI_c T n v 62
    rcases hsg with ⟨rfl, b⟩ | ⟨rfl, b⟩ | ⟨rfl, b⟩
    · rw [if_pos b]; exact Or.inl ⟨rfl, rfl⟩
    · rw [if_neg (by omega), if_pos b]; exact Or.inr (Or.inl ⟨rfl, rfl⟩)
    · rw [if_neg (by omega), if_neg (by omega)]; exact Or.inr (Or.inr ⟨rfl, rfl⟩)
  rw [hx] at hC
  exact XN_at r2 (EQ_many hkb.1 hkb.2 n0 (by omega) ha hc) hC hg (by omega)
theorem XN_kind {a v2 x : Int} (h : RQ T n pp (c0, z0) (stN T n pp d v, emN T n v a (o, w))) (q : kw T n v = 15) (e : v2 = nx T n v) (hk : kdE T n v2 = 0) (e2 : k = kdI T n v2) (e3 : s = nx T n v2) (hC : C = C0 ++ [x]) (hx : x = 8 * (a * 5 + k)) (a0 : 0 ≤ a) (a6 : a ≤ 6) (ap : a < pp) (hg : 1 ≤ g) (hs : s0 + 2 ≤ s) : XN T n pp c0 z0 d s o w 4 C0 C g s0 := by
  have hkb := kdI_c T n v2
  have r2 := yN_i h q e hk e3
  rw [← e2] at r2
  rw [hx] at hC
  exact XN_at r2 (EQ_kind ap a0 a6 (by omega) (by omega)) hC hg hs
theorem XN_as {a v2 x : Int} (h : RQ T n pp (c0, z0) (stN T n pp d v, emN T n v a (o, w))) (q : kw T n v = 16) (e : v2 = nx T n v) (hk : naE T n pp v2 = 0) (e2 : k = T v2 - 97) (k0 : 0 ≤ k) (k6 : k ≤ 6) (e3 : s = nx T n v2) (hC : C = C0 ++ [x]) (hx : x = 5 + 8 * (a * 8 + k)) (a0 : 0 ≤ a) (a6 : a ≤ 6) (ap : a < pp) (kp : k < pp) (hg : 1 ≤ g) (hs : s0 + 2 ≤ s) : XN T n pp c0 z0 d s o w 4 C0 C g s0 := by
  have r2 := yN_a h q e hk e3
  rw [← e2] at r2
  rw [hx] at hC
  exact XN_at r2 (EQ_as ap kp a0 a6 k0 k6) hC hg hs
theorem PXx_s {a v2 : Int} (h : RQ T n pp (c0, z0) (stN T n pp d v, emN T n v a (o, w))) (q : kw T n v = 17) (e : v2 = nx T n v) : PXx T n pp c0 z0 d v2 o w (14 + 16 * (a + 1)) := ⟨fun g => yN_s h q e g rfl, fun g => PX_0 (N_s h.r q e) g rfl rfl⟩
theorem PXx_p (h : RQ T n pp (c0, z0) ((1, d, s, k), (o, w))) (q : sgI T n s 40 = 1) : PXx T n pp c0 z0 d s o w 14 := ⟨fun _ => yO_p h q rfl, fun g => absurd q g⟩
theorem PXx_1 {b v2 : Int} (h : PXx T n pp c0 z0 d v o w b) (q : sgI T n v 40 = 1) (e : v2 = nx T n v) : RQ T n pp (c0, z0) ((0, d, v2, 0), (o, b :: w)) := by rw [e]; exact h.1 q
theorem PXx_0 {b p f : Int} (h : PXx T n pp c0 z0 d v o w b) (q : sgI T n v 40 ≠ 1) (e1 : p = v) (e2 : f = 1) : Rch T n pp c0 (3, 0, p, f) := by rw [e1, e2]; exact h.2 q
/-- ')' -/
theorem XP_of {b d2 s1 s2 : Int} (h : XN T n pp c0 z0 d s1 o (b :: w) 1 C0 C g s2) (hd : ¬ d ≤ 1) (q : sgI T n s1 41 = 1) (e : s = nx T n s1) (e2 : d2 = d - 1) (hs : s1 ≤ s) (hs2 : s0 ≤ s2) : XP T n pp c0 z0 d2 s o w b C0 C g s0 := by
  obtain ⟨O1, Cx, Ox, r, h2, h3, h4, h5⟩ := h
  exact ⟨Cx, Ox, yX_c r hd q e e2 h2, h3, h4, by omega⟩
theorem XN_par (h : XP T n pp c0 z0 d s o w 14 C0 C g s0) : XN T n pp c0 z0 d s o w 4 C0 C g s0 := by
  obtain ⟨Cx, Ox, r, h3, h4, h5⟩ := h
  rw [if_neg (by decide)] at r
  exact ⟨(o ++ Ox, w), Cx, Ox, r, fix_4 w _, h3, h4, h5⟩
theorem XN_says {a s1 x : Int} {C2 : List Int} (h : XP T n pp c0 z0 d s o w (14 + 16 * (a + 1)) C0 C g s1) (hC : C2 = C ++ [x]) (hx : x = 4 + 8 * a) (a0 : 0 ≤ a) (a6 : a ≤ 6) (ap : a < pp) (hs : s0 + 2 ≤ s1) : XN T n pp c0 z0 d s o w 4 C0 C2 g s0 := by
  obtain ⟨Cx, Ox, r, h3, h4, h5⟩ := h
  rw [if_pos (by omega), show (14 + 16 * (a + 1)) / 16 - 1 = a by omega, List.append_assoc] at r
  refine ⟨_, Cx ++ [x], Ox ++ [13 + 16 * a], r, fix_4 w _, ?_, ?_, ?_⟩
  · rw [hC, h3, List.append_assoc]
  · rw [hx]
    exact EQ_says h4 a0 a6 ap
  · rw [len1]
    omega
/-- behind k 'not' -/
theorem XN_neg {j : Nat} {s1 g2 : Int} {C2 : List Int} (h : XN T n pp c0 z0 d s o (ntw j w) 4 C0 C g s1) (hw : fix 3 w) (hC : (j % 2 = 1 ∧ C2 = C ++ [1]) ∨ (j % 2 ≠ 1 ∧ C2 = C)) (hg : g ≤ g2) (hs : (j = 0 ∧ s0 ≤ s1) ∨ s0 + 2 ≤ s1) : XN T n pp c0 z0 d s o w 3 C0 C2 g2 s0 := by
  obtain ⟨O1, Cx, Ox, r, h2, h3, h4, h5⟩ := h
  rw [fix_4] at h2
  have hd := drp_nt (l := 3) (Int.le_refl _) hw j (o ++ Ox)
  have e1 : O1.1 = o ++ Ox := congrArg Prod.fst h2
  have e2 : O1.2 = ntw j w := congrArg Prod.snd h2
  rw [← e1, ← e2, e1, List.append_assoc] at hd
  rcases hC with ⟨a, b⟩ | ⟨a, b⟩
  · refine ⟨O1, Cx ++ [1], Ox ++ nots j, r, by rw [e1]; exact hd, by rw [b, h3, List.append_assoc], EQ_mono (EQ_nots1 h4 a) hg, ?_⟩
    rw [len1]
    omega
  · exact ⟨O1, Cx, Ox ++ nots j, r, by rw [e1]; exact hd, by rw [b, h3], EQ_mono (EQ_nots0 h4 a) hg, by omega⟩
/-- weaker ones too -/
theorem XN_wk {l l2 g2 s2 : Int} {C2 : List Int} (h : XN T n pp c0 z0 d s o w l C0 C g s0) (hl : l2 ≤ l) (hw : fix l2 w) (hg : g ≤ g2) (e : s2 = s) (e2 : C2 = C) : XN T n pp c0 z0 d s2 o w l2 C0 C2 g2 s0 := by
  obtain ⟨O1, Cx, Ox, r, h2, h3, h4, h5⟩ := h
  rw [e, e2]
  refine ⟨O1, Cx, Ox, r, ?_, h3, EQ_mono h4 hg, h5⟩
  rw [← drp_drp hl, h2]
  exact hw _
theorem XN_oa {s1 : Int} (h : XN T n pp c0 z0 d s o w 2 C0 C g s0) (q : kw T n s = 12) (e : s1 = nx T n s) : ∃ Oa Ca, RQ T n pp (c0, z0) ((1, d, s1, 0), (o ++ Oa, 11 :: w)) ∧ C = C0 ++ Ca ∧ EQ pp Ca Oa g ∧ 2 * (Ca.length : Int) ≤ s - s0 := by
  obtain ⟨O1, Cx, Ox, r, h2, h3, h4, h5⟩ := h
  exact ⟨Ox, Cx, yX_and r q e h2, h3, h4, h5⟩
theorem XN_oo {s1 : Int} (h : XN T n pp c0 z0 d s o w 1 C0 C g s0) (q : kw T n s = 13) (e : s1 = nx T n s) : ∃ Oa Ca, RQ T n pp (c0, z0) ((1, d, s1, 0), (o ++ Oa, 12 :: w)) ∧ C = C0 ++ Ca ∧ EQ pp Ca Oa g ∧ 2 * (Ca.length : Int) ≤ s - s0 := by
  obtain ⟨O1, Cx, Ox, r, h2, h3, h4, h5⟩ := h
  exact ⟨Ox, Cx, yX_or r q e h2, h3, h4, h5⟩
theorem fix_11 (w : List Int) : fix 3 (11 :: w) := fix_c (Or.inr (by decide))
theorem fix_12 (w : List Int) : fix 2 (12 :: w) := fix_c (Or.inr (by decide))
theorem fix_op {b : Int} (h : b % 16 = 14) (w : List Int) : fix 1 (b :: w) := fix_c (Or.inl h)
theorem XN_and {Oa Ca Cb C1 C2 : List Int} {s1 s2 gn x : Int} (ha : EQ pp Ca Oa g) (hl : 2 * (Ca.length : Int) ≤ s - s0) (hs : s + 2 ≤ s1) (h : XN T n pp c0 z0 d s2 (o ++ Oa) (11 :: w) 3 Cb C1 gn s1) (hb : Cb = C0 ++ Ca) (hC : C2 = C1 ++ [x]) (hx : x = 2) (hw : fix 2 w) (hg : gn + 1 ≤ g) : XN T n pp c0 z0 d s2 o w 2 C0 C2 g s0 := by
  obtain ⟨O1, Cx, Ox, r, h2, h3, h4, h5⟩ := h
  refine ⟨O1, Ca ++ Cx ++ [x], Oa ++ Ox ++ [11], r, ?_, ?_, ?_, ?_⟩
  · rw [← drp_drp (show (2 : Int) ≤ 3 by decide), h2]
    show drp 2 (11 :: w) (o ++ Oa ++ Ox) = _
    rw [drp_p (by decide) (by decide), hw]
    show (o ++ Oa ++ Ox ++ [11], w) = _
    simp only [List.append_assoc]
  · rw [hC, h3, hb]
    simp only [List.append_assoc]
  · rw [hx]
    exact EQ_and ha h4 (Int.le_refl _) hg
  · rw [len1, len2]
    omega
theorem XN_or {Oa Ca Cb C1 C2 : List Int} {s1 s2 gn x : Int} (ha : EQ pp Ca Oa g) (hl : 2 * (Ca.length : Int) ≤ s - s0) (hs : s + 2 ≤ s1) (h : XN T n pp c0 z0 d s2 (o ++ Oa) (12 :: w) 2 Cb C1 gn s1) (hb : Cb = C0 ++ Ca) (hC : C2 = C1 ++ [x]) (hx : x = 3) (hw : fix 1 w) (hg : gn + 1 ≤ g) : XN T n pp c0 z0 d s2 o w 1 C0 C2 g s0 := by
  obtain ⟨O1, Cx, Ox, r, h2, h3, h4, h5⟩ := h
  refine ⟨O1, Ca ++ Cx ++ [x], Oa ++ Ox ++ [12], r, ?_, ?_, ?_, ?_⟩
  · rw [← drp_drp (show (1 : Int) ≤ 2 by decide), h2]
    show drp 1 (12 :: w) (o ++ Oa ++ Ox) = _
    rw [drp_p (by decide) (by decide), hw]
    show (o ++ Oa ++ Ox ++ [12], w) = _
    simp only [List.append_assoc]
  · rw [hC, h3, hb]
    simp only [List.append_assoc]
  · rw [hx]
    exact EQ_or ha h4 (Int.le_refl _) hg
  · rw [len1, len2]
    omega
/-- a known word has two letters or more -/
theorem kw_2 (h : 0 ≤ kw T n s) : s + 2 ≤ nx T n s := by
  have h1 := kw_ty h
  have h2 := kw_b T n s
  have hs : s < n := by
    have h3 := h1.1
    unfold tt at h3
    split at h3
    · assumption
    · omega
  have h3 := ee_r (T := T) (n := n) (s := s) (by omega)
  have h4 := sk_r (T := T) h3.2.1
  by_cases q : ee T n s - s = 1
  · have h5 : nmI T n s = 1 := if_pos ⟨h1.1, q⟩
    have := (nm_kw h5).1
    omega
  · have := h3.2.2.1 hs
    unfold nx
    omega
end XNs
/-- the SENTENCE in a text: its steps -/
def CDX (T : Int → Int) (n pp : Int) (C : List Int) : Prop := ∃ s O, RQ T n pp (((0, 0, sk T n 0, 0) : Cg), (([], []) : Og)) ((4, 0, s, 0), (O ++ [0], [])) ∧ EQ pp C O 13
theorem CDX_of {T : Int → Int} {n m pp s g s0 : Int} {C C2 : List Int} {c0 : Cg} {z0 : Og} (h : XN T n pp c0 z0 1 s [] [] 1 [] C g s0) (hc : c0 = (0, 0, sk T m 0, 0)) (hz : z0 = ([], [])) (e9 : n = m) (q : ¬ (kw T n s = 12 ∨ kw T n s = 13)) (e2 : C2 = C) (hg : g ≤ 13) : CDX T m pp C2 := by
  subst e9
  subst hc
  subst hz
  obtain ⟨O1, Cx, Ox, r, h2, h3, h4, h5⟩ := h
  have h6 : C2 = Cx := by rw [e2, h3]; rfl
  refine ⟨s, Ox, yX_e r q (by decide) rfl h2, ?_⟩
  rw [h6]
  exact EQ_mono h4 hg
theorem F_nz {T : Int → Int} {n pp s p f : Int} (h : Rch T n pp (0, 0, s, 0) (3, 0, p, f)) : f ≠ 0 := by
  rcases h.nz (show (0 : Int) ≤ 2 by decide) with a | a | a
  · exact absurd (show (3 : Int) ≤ 2 from a) (by decide)
  · exact absurd (show (3 : Int) = 4 from a) (by decide)
  · exact a.2
