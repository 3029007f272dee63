def fg_OWe : Nat := 1356938545751033293537963385102177647042425645679212411736618747490243444736
/-! ===== the model's reader, with what it puts down ===== -/
def wlN (u : Int → Int) : Nat → List Int
  | 0 => []
  | n + 1 => u n :: wlN u n
def RLt (u : Int → Int) (t : Int) : List Int := (List.range t.toNat).map (fun k : Nat => u k)
/-- what stands in read, what in waits -/
def OW (M : Mm) : Og := (RLt (fun k => M 757 k) (M 739 45), wlN (fun k => M 758 k) (M 739 46).toNat)
def OWe (M : Mm) (O : Og) : Prop := OW M = O
theorem OWe_rf (M : Mm) : OWe M (OW M) := rfl
theorem wlN_cg {u v : Int → Int} : ∀ n : Nat, (∀ k : Nat, k < n → u k = v k) → wlN u n = wlN v n := by
  intro n
  induction n with
  | zero => intro _; rfl
  | succ n ih =>
    intro h
    show u n :: wlN u n = v n :: wlN v n
    rw [h n (by omega), ih (fun k hk => h k (by omega))]
theorem RLt_cg {u v : Int → Int} {t : Int} (h : ∀ k : Int, 0 ≤ k → k < t → u k = v k) : RLt u t = RLt v t := by
  unfold RLt
  refine List.map_congr_left fun k hk => ?_
  have := List.mem_range.mp hk
  exact h k (by omega) (by omega)
theorem RLt_s {u v : Int → Int} {t x : Int} (h0 : 0 ≤ t) (h : ∀ k : Int, 0 ≤ k → k < t → v k = u k) (hx : v t = x) : RLt v (t + 1) = RLt u t ++ [x] := by
  unfold RLt
  rw [show (t + 1).toNat = t.toNat + 1 by omega, List.range_succ, List.map_append]
  congr 1
  · refine List.map_congr_left fun k hk => ?_
    have := List.mem_range.mp hk
    exact h k (by omega) (by omega)
  · show [v ((t.toNat : Nat) : Int)] = [x]
    rw [show ((t.toNat : Nat) : Int) = t by omega, hx]
theorem OWe_sm {M M2 : Mm} {O : Og} (h : Sm fg_OWe M M2) (p : OWe M O) : OWe M2 O := by
  unfold OWe OW at p ⊢
  rw [h.at g_739_45 rfl, h.at g_739_46 rfl, h.row (fun i => gr_757 (by decide) (by decide) i) rfl, h.row (fun i => gr_758 (by decide) (by decide) i) rfl]
  exact p
theorem OWe_put {M M2 : Mm} {O : Og} {v : Int} (h : OWe M O) (hp : PUT M M2 v) (h0 : 0 ≤ M 739 45) : OWe M2 (O.1 ++ [v], O.2) := by
  obtain ⟨-, p2, p3, -, -, p6, p7, p8⟩ := hp
  unfold OWe OW at h ⊢
  rw [← h, p2, p3]
  refine Prod.ext ?_ ?_
  · exact RLt_s h0 (fun k _ q => p8 k (by omega)) p7
  · exact wlN_cg _ fun k _ => p6 k
theorem OWe_wai {M M2 : Mm} {O : Og} {v : Int} (h : OWe M O) (hp : WAI M M2 v) (h0 : 0 ≤ M 739 46) : OWe M2 (O.1, v :: O.2) := by
  obtain ⟨-, p2, p3, -, -, p6, p7, p8⟩ := hp
  unfold OWe OW at h ⊢
  rw [← h, p2, p3, show (M 739 46 + 1).toNat = (M 739 46).toNat + 1 by omega]
  refine Prod.ext ?_ ?_
  · exact RLt_cg fun k _ _ => p6 k
  · show M2 758 ((M 739 46).toNat : Nat) :: wlN (fun k => M2 758 k) (M 739 46).toNat = v :: wlN (fun k => M 758 k) (M 739 46).toNat
    rw [show (((M 739 46).toNat : Nat) : Int) = M 739 46 by omega, p7, wlN_cg (u := fun k => M2 758 k) (v := fun k => M 758 k) _ (fun k hk => p8 k (by omega))]
/-- the last that waits is taken -/
theorem OWe_pop {M M2 : Mm} {O : Og} {w v : Int} (h : OWe M O) (hw : M 739 46 = w) (h1 : 1 ≤ w) (e : M2 = mUp M 739 46 (w - 1)) (hv : M 758 (w - 1) = v) : ∃ ws, O.2 = v :: ws ∧ OWe M2 (O.1, ws) := by
  have a1 : M2 739 46 = w - 1 := mUp_at e
  have a2 : M2 739 45 = M 739 45 := by rw [e, mUp_ne (Or.inr (by decide))]
  have a3 : ∀ k, M2 757 k = M 757 k := fun k => by rw [e, mUp_ne (Or.inl (by decide))]
  have a4 : ∀ k, M2 758 k = M 758 k := fun k => by rw [e, mUp_ne (Or.inl (by decide))]
  unfold OWe OW at h ⊢
  refine ⟨wlN (fun k => M 758 k) (w - 1).toNat, ?_, ?_⟩
  · rw [← h, hw, show w.toNat = (w - 1).toNat + 1 by omega]
    show M 758 ((w - 1).toNat : Nat) :: wlN (fun k => M 758 k) (w - 1).toNat = _
    rw [show (((w - 1).toNat : Nat) : Int) = w - 1 by omega, hv]
  · rw [a1, a2, ← h]
    refine Prod.ext (RLt_cg fun k _ _ => a3 k) (wlN_cg _ fun k _ => a4 k)
theorem OWe_w0 {M : Mm} {O : Og} (h : OWe M O) (hw : M 739 46 ≤ 0) : O.2 = [] := by
  unfold OWe OW at h
  rw [← h, show (M 739 46).toNat = 0 by omega]
  rfl
theorem OWe_top {M : Mm} {O : Og} {w v : Int} (h : OWe M O) (hw : M 739 46 = w) (h1 : 1 ≤ w) (hv : M 758 (w - 1) = v) : ∃ ws, O.2 = v :: ws := by
  obtain ⟨ws, e, -⟩ := OWe_pop h hw h1 rfl hv
  exact ⟨ws, e⟩
/-- a waiting one is put down -/
theorem drp_s {l v x : Int} {ws o : List Int} {O : Og} {P : Og} (h : drp l O.2 O.1 = P) (e : O.2 = v :: ws) (eo : O.1 = o) (hn : v % 16 ≠ 14) (hl : l ≤ strw v) (hx : x = v % 16) : drp l ws (o ++ [x]) = P := by
  rw [e, eo, drp_p hn hl] at h
  rw [hx]
  exact h
theorem drp_e {l : Int} {O : Og} {P : Og} (h : drp l O.2 O.1 = P) (hc : O.2 = [] ∨ ∃ v ws, O.2 = v :: ws ∧ (v % 16 = 14 ∨ strw v < l)) : O = P := by
  rw [← h]
  rcases hc with e | ⟨v, ws, e, hv⟩
  · rw [e]
    exact Prod.ext rfl e
  · rw [e, fix_c hv]
    exact Prod.ext rfl e
theorem strw_16 {v p : Int} (h : p = v % 16) : strw p = strw v := by
  unfold strw
  rw [h, show v % 16 % 16 = v % 16 by omega]
def RGX (T : Int → Int) (n pp : Int) (c : Cg) (z : Og) (ph d s k fk fp : Int) (O : Og) : Prop := (fk = 0 ∧ RQ T n pp (c, z) ((ph, d, s, k), O)) ∨ (fk ≠ 0 ∧ Rch T n pp c (3, 0, fp, fk))
section RGXs
variable {T : Int → Int} {n pp ph d s k fk fp d2 s2 k2 fk2 fp2 : Int} {c : Cg} {z O O2 : Og}
theorem RGX_r (h : RGX T n pp c z ph d s k fk fp O) : RG T n pp c ph d s k fk fp := by
  rcases h with ⟨a, r⟩ | ⟨a, r⟩
  · exact Or.inl ⟨a, r.r⟩
  · exact Or.inr ⟨a, r⟩
theorem RGX_f (h : RG T n pp c ph d s k fk fp) (q : fk ≠ 0) : RGX T n pp c z ph d s k fk fp O := Or.inr ⟨q, RG_b h q⟩
theorem RGX_b (h : RGX T n pp c z ph d s k fk fp O) (q : fk ≠ 0) : Rch T n pp c (3, 0, fp, fk) := RG_b (RGX_r h) q
theorem RGX_g (h : RGX T n pp c z ph d s k fk fp O) (q : fk = 0) : RQ T n pp (c, z) ((ph, d, s, k), O) := by
  rcases h with ⟨-, r⟩ | ⟨e, -⟩
  · exact r
  · exact absurd q e
theorem RGX_mg (h : RQ T n pp (c, z) ((ph, d, s, k), O)) (q : fk = 0) : RGX T n pp c z ph d s k fk fp O := Or.inl ⟨q, h⟩
theorem RGX_mb (h : Rch T n pp c (3, 0, fp, fk)) (q : fk ≠ 0) : RGX T n pp c z ph d s k fk fp O := Or.inr ⟨q, h⟩
theorem RGX_c (h : RGX T n pp c z ph d s k fk fp O) (e1 : d2 = d) (e2 : s2 = s) (e3 : k2 = k) (e4 : fk2 = fk) (e5 : fp2 = fp) (e6 : O2 = O) : RGX T n pp c z ph d2 s2 k2 fk2 fp2 O2 := by
  rw [e1, e2, e3, e4, e5, e6]
  exact h
theorem deep_gx (h : RGX T n pp c z 0 d s 0 fk fp O) (a : fk = 0) (q : cbI T n s = 1) (hd : d ≠ 6) (e : fk2 = 0) (e2 : d2 = d + 1) (e6 : O2 = O) : RGX T n pp c z 1 d2 s 0 fk2 fp2 O2 := by
  rw [e6]
  exact RGX_mg (yE_b (RGX_g h a) q hd e2) e
theorem deep_fx (h : RG T n pp c 1 d2 s2 0 fk2 fp2) (q : fk2 ≠ 0) : RGX T n pp c z 1 d2 s2 0 fk2 fp2 O2 := RGX_f h q
theorem n63x {a v1 v2 v3 : Int} (h : RQ T n pp (c, z) (stN T n pp d v1, emN T n v1 a O)) (q : kw T n v1 = 17) (e : v2 = nx T n v1) (q2 : sgI T n v2 40 = 1) (e3 : v3 = nx T n v2) (e1 : fk = 0) (e6 : O2 = (O.1, (14 + 16 * (a + 1)) :: O.2)) : RGX T n pp c z 0 d v3 0 fk fp O2 := by
  rw [e6]
  exact RGX_mg (yN_s (o := O.1) (w := O.2) h q e q2 e3) e1
theorem n141ix {a v1 v2 v3 kv : Int} (h : RQ T n pp (c, z) (stN T n pp d v1, emN T n v1 a O)) (q : kw T n v1 = 15) (e : v2 = nx T n v1) (hc : (kdE T n v2 = 0 ∧ fk = 0 ∧ v3 = nx T n v2 ∧ kv = kdI T n v2) ∨ (kdE T n v2 ≠ 0 ∧ fk = kdE T n v2 ∧ fp = v2)) (e6 : O2 = (O.1 ++ [1 + 16 * a + 2048 * kv], O.2)) : RGX T n pp c z 2 d v3 0 fk fp O2 := by
  rcases hc with ⟨a1, b, e3, e4⟩ | ⟨a1, b, e3⟩
  · rw [e6, e4]
    exact RGX_mg (yN_i (o := O.1) (w := O.2) h q e a1 e3) b
  · exact RGX_mb (N_in h.r q e a1 e3 b) (by omega)
theorem n141ax {a v1 v2 v3 kv : Int} (h : RQ T n pp (c, z) (stN T n pp d v1, emN T n v1 a O)) (q : kw T n v1 = 16) (e : v2 = nx T n v1) (hc : (naE T n pp v2 = 0 ∧ fk = 0 ∧ v3 = nx T n v2 ∧ kv = T v2 - 97) ∨ (naE T n pp v2 ≠ 0 ∧ fk = naE T n pp v2 ∧ fp = v2)) (e6 : O2 = (O.1 ++ [2 + 16 * a + 2048 * kv], O.2)) : RGX T n pp c z 2 d v3 0 fk fp O2 := by
  rcases hc with ⟨a1, b, e3, e4⟩ | ⟨a1, b, e3⟩
  · rw [e6, e4]
    exact RGX_mg (yN_a (o := O.1) (w := O.2) h q e a1 e3) b
  · exact RGX_mb (N_an h.r q e a1 e3 b) (by omega)
/-- an ATOM with one NUMBER -/
theorem a235nx {m v1 v2 kv ac : Int} (h : RQ T n pp (c, z) ((1, d, s, k), O)) (q1 : kw T n s ≠ 14) (q2 : sgI T n s 40 ≠ 1) (q3 : nmI T n s ≠ 1) (q : (kw T n s = 18 ∧ m = 3 ∧ ac = 3) ∨ (kw T n s = 8 ∧ m = 6 ∧ ac = 4) ∨ (kw T n s = 20 ∧ m = 1 ∧ ac = 8) ∨ (kw T n s = 21 ∧ m = 99 ∧ ac = 9)) (e : v1 = nx T n s) (hc : (nuE T n v1 0 m = 0 ∧ fk = 0 ∧ v2 = nx T n v1 ∧ kv = vlI T n v1) ∨ (nuE T n v1 0 m ≠ 0 ∧ fk = nuE T n v1 0 m ∧ fp = v1)) (e6 : O2 = (O.1 ++ [ac + 16 * kv], O.2)) : RGX T n pp c z 2 d v2 0 fk fp O2 := by
  have q' : (kw T n s = 18 ∧ m = 3) ∨ (kw T n s = 8 ∧ m = 6) ∨ (kw T n s = 20 ∧ m = 1) ∨ (kw T n s = 21 ∧ m = 99) := by omega
  have ha : acN m = ac := by
    unfold acN
    rcases q with ⟨-, rfl, rfl⟩ | ⟨-, rfl, rfl⟩ | ⟨-, rfl, rfl⟩ | ⟨-, rfl, rfl⟩ <;> rfl
  rcases hc with ⟨a, b, e3, e4⟩ | ⟨a, b, e3⟩
  · have r := yA (o := O.1) (w := O.2) h q1 q2 q3 q' e a e3
    rw [e6, e4, ← ha]
    exact RGX_mg r b
  · exact RGX_mb (AX_e (A1 h.r q1 q2 q3 q' e) a e3 b) (by omega)
theorem actS_of {T : Int → Int} {n s cc a : Int} (hc : s < n → cc = T s) (hs : sgI T n s 60 = 1 ∨ sgI T n s 61 = 1 ∨ sgI T n s 62 = 1) (h : (cc = 60 ∧ a = 5) ∨ (cc ≠ 60 ∧ cc = 61 ∧ a = 6) ∨ (cc ≠ 60 ∧ cc ≠ 61 ∧ a = 7)) : actS T n s = a := by
  have a1 := sgI_c T n s 60
  have a2 := sgI_c T n s 61
  have a3 := sgI_c T n s 62
  have a4 := tt_lt T n s
  have a5 := hc (by omega)
  unfold actS
  rcases h with ⟨b, rfl⟩ | ⟨b, b2, rfl⟩ | ⟨b, b2, rfl⟩
  · rw [if_pos (by omega)]
  · rw [if_neg (by omega), if_pos (by omega)]
  · rw [if_neg (by omega), if_neg (by omega)]
/-- 'many' -/
theorem a235mx {v1 v2 v3 v4 kk kv ac : Int} (h : RQ T n pp (c, z) ((1, d, s, k), O)) (q2 : sgI T n s 40 ≠ 1) (q3 : nmI T n s ≠ 1) (q : kw T n s = 19) (e : v1 = nx T n s) (a : kdE T n v1 = 0) (ek : kk = kdI T n v1) (e1 : v2 = nx T n v1) (hs : sgI T n v2 60 = 1 ∨ sgI T n v2 61 = 1 ∨ sgI T n v2 62 = 1) (ha : actS T n v2 = ac) (e3 : v3 = nx T n v2) (hc : (nuE T n v3 0 99 = 0 ∧ fk = 0 ∧ v4 = nx T n v3 ∧ kv = vlI T n v3) ∨ (nuE T n v3 0 99 ≠ 0 ∧ fk = nuE T n v3 0 99 ∧ fp = v3)) (e6 : O2 = (O.1 ++ [ac + 16 * kk + 2048 * kv], O.2)) : RGX T n pp c z 2 d v4 0 fk fp O2 := by
  rcases hc with ⟨b1, b, e4, e5⟩ | ⟨b1, b, e4⟩
  · have r := yM (o := O.1) (w := O.2) h q2 q3 q e a e1 hs e3 b1 e4
    rw [e6, e5, ek, ← ha]
    exact RGX_mg r b
  · have r1 := A_m h.r q2 q3 q e
    exact RGX_f (a235m (v4 := v4) r1 a e1 hs e3 (Or.inr ⟨b1, b, e4⟩)) (by omega)
/-- at operand's loop -/
def OPX (T : Int → Int) (n pp : Int) (c : Cg) (z : Og) (more ha d s fk fp : Int) (O : Og) : Prop := (more = 1 ∧ RGX T n pp c z 1 d s 0 fk fp O) ∨ (more = 0 ∧ ha = 1 ∧ RGX T n pp c z 2 d s 0 fk fp O) ∨ (more = 0 ∧ ha = 0 ∧ fk = 0 ∧ ∃ k, RQ T n pp (c, z) ((1, d, s, k), O) ∧ kw T n s ≠ 14 ∧ sgI T n s 40 ≠ 1 ∧ nmI T n s ≠ 1) ∨ (more = 0 ∧ fk ≠ 0 ∧ Rch T n pp c (3, 0, fp, fk))
variable {more ha : Int}
theorem OPX_1 (h : OPX T n pp c z more ha d s fk fp O) (q : more = 1) : RGX T n pp c z 1 d s 0 fk fp O := by
  rcases h with ⟨-, r⟩ | ⟨e, -⟩ | ⟨e, -⟩ | ⟨e, -⟩
  · exact r
  all_goals omega
theorem OPX_2 (h : OPX T n pp c z more ha d s fk fp O) (q : more = 0) (q2 : ha = 1) : RGX T n pp c z 2 d s 0 fk fp O := by
  rcases h with ⟨e, -⟩ | ⟨-, -, r⟩ | ⟨-, e, -⟩ | ⟨-, e, r⟩
  · omega
  · exact r
  · omega
  · exact RGX_mb r e
theorem OPX_3 (h : OPX T n pp c z more ha d s fk fp O) (q : more = 0) (q2 : ha = 0) (q3 : fk = 0) : ∃ k, RQ T n pp (c, z) ((1, d, s, k), O) ∧ kw T n s ≠ 14 ∧ sgI T n s 40 ≠ 1 ∧ nmI T n s ≠ 1 := by
  rcases h with ⟨e, -⟩ | ⟨-, e, -⟩ | ⟨-, -, -, r⟩ | ⟨-, e, -⟩
  · omega
  · omega
  · exact r
  · omega
theorem OPX_f (h : OPX T n pp c z more ha d s fk fp O) (q : fk ≠ 0) : RGX T n pp c z 2 d2 s2 k2 fk fp O2 := by
  rcases h with ⟨-, r⟩ | ⟨-, -, r⟩ | ⟨-, -, e, -⟩ | ⟨-, -, r⟩
  · exact RGX_mb (RGX_b r q) q
  · exact RGX_mb (RGX_b r q) q
  · exact absurd e q
  · exact RGX_mb r q
theorem OPX_a (h : RGX T n pp c z 1 d s 0 fk fp O) (q : more = 1) : OPX T n pp c z more ha d s fk fp O := Or.inl ⟨q, h⟩
theorem OPX_b (h : RGX T n pp c z 2 d s 0 fk fp O) (q : more = 0) (q2 : ha = 1 ∨ fk ≠ 0) : OPX T n pp c z more ha d s fk fp O := by
  by_cases e : fk = 0
  · exact Or.inr (Or.inl ⟨q, by omega, h⟩)
  · exact Or.inr (Or.inr (Or.inr ⟨q, e, RGX_b h e⟩))
theorem OPX_c (h : RGX T n pp c z 1 d s k fk fp O) (q : more = 0) (e : (fk ≠ 0) ∨ (fk = 0 ∧ ha = 0 ∧ kw T n s ≠ 14 ∧ sgI T n s 40 ≠ 1 ∧ nmI T n s ≠ 1)) (e6 : O2 = O) : OPX T n pp c z more ha d s fk fp O2 := by
  rw [e6]
  rcases e with e | ⟨e, e1, e2, e3, e4⟩
  · exact Or.inr (Or.inr (Or.inr ⟨q, e, RGX_b h e⟩))
  · exact Or.inr (Or.inr (Or.inl ⟨q, e1, e, k, RGX_g h e, e2, e3, e4⟩))
theorem o15x (h : RGX T n pp c z 1 d s k fk fp O) (q0 : fk = 0) (q : kw T n s = 14) (hc : (k = 6 ∧ fk2 = 2 ∧ fp2 = s) ∨ (k ≠ 6 ∧ fk2 = 0 ∧ s2 = nx T n s ∧ k2 = k + 1 ∧ O2 = (O.1, 10 :: O.2))) : RGX T n pp c z 1 d s2 k2 fk2 fp2 O2 := by
  have r := RGX_g h q0
  rcases hc with ⟨a, b, e⟩ | ⟨a, b, e, e2, e6⟩
  · exact RGX_mb (O_6 r.r q a e b) (by omega)
  · rw [e6]
    exact RGX_mg (yO_n (o := O.1) (w := O.2) r q a e e2) b
theorem o95x (h : RGX T n pp c z 1 d s k fk fp O) (q0 : fk = 0) (q : sgI T n s 40 = 1) (e : s2 = nx T n s) (e2 : fk2 = 0) (e6 : O2 = (O.1, 14 :: O.2)) : RGX T n pp c z 0 d s2 0 fk2 fp2 O2 := by
  rw [e6]
  exact RGX_mg (yO_p (o := O.1) (w := O.2) (RGX_g h q0) q e) e2
/-- at expression's loop -/
def EXX (T : Int → Int) (n pp : Int) (c : Cg) (z : Og) (more d s fk fp : Int) (O : Og) : Prop := RGX T n pp c z 2 d s 0 fk fp O ∧ (more = 1 ∨ fk ≠ 0 ∨ (kw T n s ≠ 12 ∧ kw T n s ≠ 13 ∧ (sgI T n s 41 ≠ 1 ∨ d ≤ 1)))
theorem EXX_a (h : RGX T n pp c z 2 d s 0 fk fp O) (q : more = 1) : EXX T n pp c z more d s fk fp O := ⟨h, Or.inl q⟩
theorem EXX_z {m2 : Int} (h : EXX T n pp c z more d s fk fp O) (q : kw T n s ≠ 12 ∧ kw T n s ≠ 13 ∧ (sgI T n s 41 ≠ 1 ∨ d ≤ 1)) (e6 : O2 = O) : EXX T n pp c z m2 d s fk fp O2 := by
  rw [e6]
  exact ⟨h.1, Or.inr (Or.inr q)⟩
theorem e98x {l b : Int} {P : Og} (h : EXX T n pp c z more d s fk fp O) (q0 : fk = 0) (q : (kw T n s = 12 ∧ l = 2 ∧ b = 11) ∨ (kw T n s = 13 ∧ l = 1 ∧ b = 12)) (e : s2 = nx T n s) (e2 : fk2 = 0) (e5 : P = drp l O.2 O.1) (e6 : O2 = (P.1, b :: P.2)) : RGX T n pp c z 1 d s2 0 fk2 fp2 O2 := by
  rw [e6, e5]
  rcases q with ⟨q, rfl, rfl⟩ | ⟨q, rfl, rfl⟩
  · exact RGX_mg (yX_and (RGX_g h.1 q0) q e rfl) e2
  · exact RGX_mg (yX_or (RGX_g h.1 q0) q e rfl) e2
theorem e182x {b : Int} {ws : List Int} {P : Og} (h : EXX T n pp c z more d s fk fp O) (q0 : fk = 0) (q : sgI T n s 41 = 1) (hd : ¬ d ≤ 1) (e : s2 = nx T n s) (ed : d2 = d - 1) (e2 : fk2 = 0) (e5 : P = drp 1 O.2 O.1) (e7 : P.2 = b :: ws) (e6 : O2 = (if 14 < b then P.1 ++ [13 + 16 * (b / 16 - 1)] else P.1, ws)) : RGX T n pp c z 2 d2 s2 0 fk2 fp2 O2 := by
  rw [e6]
  refine RGX_mg (yX_c (RGX_g h.1 q0) hd q e ed ?_) e2
  rw [← e5]
  exact Prod.ext rfl e7
theorem ex_endx {P : Og} (h : EXX T n pp c z more d s fk fp O) (hc : (fk ≠ 0 ∧ fk2 = fk ∧ fp2 = fp) ∨ (fk = 0 ∧ more = 0 ∧ d ≤ 1 ∧ fk2 = 0 ∧ s2 = s) ∨ (fk = 0 ∧ more = 0 ∧ ¬ d ≤ 1 ∧ fk2 = 1 ∧ fp2 = s)) (e5 : P = drp 1 O.2 O.1) (e6 : O2 = (P.1 ++ [0], P.2)) : RGX T n pp c z 4 0 s2 0 fk2 fp2 O2 := by
  have h2 := h.2
  rcases hc with ⟨a, b, e⟩ | ⟨a, m, hd, b, e⟩ | ⟨a, m, hd, b, e⟩
  · rw [b, e]
    exact RGX_mb (RGX_b h.1 a) a
  · rw [e6, e5]
    exact RGX_mg (yX_e (RGX_g h.1 a) (by omega) hd e rfl) b
  · exact RGX_mb (X_n (RGX_g h.1 a).r (by omega) hd (by omega) e b) (by omega)
end RGXs
theorem OW_dr {M M1 : Mm} {O : Og} {l : Int} (h : OWe M O) (hx : OW M1 = drp l (OW M).2 (OW M).1) : OW M1 = drp l O.2 O.1 := by
  unfold OWe at h
  rw [h] at hx
  exact hx
theorem OWe_0 {M M0 : Mm} (h1 : M 739 45 = M0 739 45) (h2 : M 739 46 = 0) (h3 : ∀ k, M 757 k = M0 757 k) : OWe M ((OW M0).1, []) := by
  unfold OWe OW
  rw [h1, h2]
  exact Prod.ext (RLt_cg fun k _ _ => h3 k) rfl
theorem OWe_c {M : Mm} {O O2 : Og} (h : OWe M O) (e : O = O2) : OWe M O2 := by rw [← e]; exact h

def fg_EV : Nat := 1311331805890207119612720533963621308199166999498990748122452077125304320
/-! ===== a WORLD as the model holds it, and what its steps answer ===== -/
def b2i (b : Bool) : Int := if b then 1 else 0
theorem b2i_b (b : Bool) : 0 ≤ b2i b ∧ b2i b ≤ 1 := by cases b <;> decide
theorem b2i_1 {b : Bool} : b2i b = 1 ↔ b = true := by cases b <;> decide
theorem b2i_d {p : Prop} [Decidable p] {z : Int} (h : (p ∧ z = 1) ∨ (¬ p ∧ z = 0)) : z = b2i (decide p) := by
  rcases h with ⟨a, b⟩ | ⟨a, b⟩
  · rw [b, decide_eq_true a]; rfl
  · rw [b, decide_eq_false a]; rfl
def kiF (M : Mm) (w p : Int) : Int := M 742 w / pw (3 * p) % 8
/-- how often one was asked or said, by twos -/
def tpF (u : Int → Int) (p v : Int) : Nat → Int
  | 0 => v
  | n + 1 => if u n = p then 1 - tpF u p v n else tpF u p v n
def lyF (M : Mm) (w p t : Int) : Int :=
  if kiF M w p = 0 then 0 else if kiF M w p = 1 then 1 else if kiF M w p = 2 then tpF (fun k => M 748 k) p (M 743 w / pw p % 2) t.toNat else if kiF M w p = 3 then M 739 3 / pw (M 745 w) % 2 else 2
def evF (M : Mm) (w t so : Int) : Ev := fun k =>
  if k < 7 then kiF M w k else if k = 10 then M 744 w else if k = 11 then M 745 w else if k = 12 then M 746 w else if k = 13 then M 739 1 else if k < 30 then lyF M w (k - 20) t else if k - 30 < t then so / pw (k - 30) % 2 else 0
theorem tpF_b {u : Int → Int} {p v : Int} (hv : 0 ≤ v ∧ v ≤ 1) : ∀ n : Nat, 0 ≤ tpF u p v n ∧ tpF u p v n ≤ 1 := by
  intro n
  induction n with
  | zero => exact hv
  | succ n ih =>
    show 0 ≤ (if u n = p then 1 - tpF u p v n else tpF u p v n) ∧ (if u n = p then 1 - tpF u p v n else tpF u p v n) ≤ 1
    split <;> omega
theorem evF_ok {M : Mm} {w t so : Int} (h0 : 0 ≤ M 739 1) (h7 : M 739 1 ≤ 7) (ht : t ≤ 15) : OKE (evF M w t so) := by
  have e13 : evF M w t so 13 = M 739 1 := by
    unfold evF
    rw [if_neg (by decide), if_neg (by decide), if_neg (by decide), if_neg (by decide), if_pos rfl]
  refine ⟨by rw [e13]; exact h0, by rw [e13]; exact h7, fun k hk => ?_⟩
  unfold evF
  rw [if_neg (by omega), if_neg (by omega), if_neg (by omega), if_neg (by omega), if_neg (by omega), if_neg (by omega), if_neg (by omega)]
  decide
section EVk
variable {M : Mm} {w t so k : Int}
theorem evF_k (h : k < 7) : evF M w t so k = kiF M w k := if_pos h
theorem evF_10 : evF M w t so 10 = M 744 w := by unfold evF; rw [if_neg (by decide), if_pos rfl]
theorem evF_11 : evF M w t so 11 = M 745 w := by unfold evF; rw [if_neg (by decide), if_neg (by decide), if_pos rfl]
theorem evF_12 : evF M w t so 12 = M 746 w := by unfold evF; rw [if_neg (by decide), if_neg (by decide), if_neg (by decide), if_pos rfl]
theorem evF_13 : evF M w t so 13 = M 739 1 := by unfold evF; rw [if_neg (by decide), if_neg (by decide), if_neg (by decide), if_neg (by decide), if_pos rfl]
theorem evF_20 (h0 : 0 ≤ k) (h6 : k ≤ 6) : evF M w t so (20 + k) = lyF M w k t := by
  unfold evF
  rw [if_neg (by omega), if_neg (by omega), if_neg (by omega), if_neg (by omega), if_neg (by omega), if_pos (by omega), show 20 + k - 20 = k by omega]
theorem evF_30 (h0 : 0 ≤ k) : evF M w t so (30 + k) = if k < t then so / pw k % 2 else 0 := by
  unfold evF
  rw [if_neg (by omega), if_neg (by omega), if_neg (by omega), if_neg (by omega), if_neg (by omega), if_neg (by omega), show 30 + k - 30 = k by omega]
end EVk
/-- a stack's numbers -/
def SK (u : Int → Int) : List Bool → Prop
  | [] => True
  | b :: st => u st.length = b2i b ∧ SK u st
theorem SK_cg {u v : Int → Int} : ∀ st : List Bool, (∀ k : Nat, k < st.length → v k = u k) → SK u st → SK v st := by
  intro st
  induction st with
  | nil => intro _ _; trivial
  | cons b st ih =>
    intro h hs
    have hl : (b :: st).length = st.length + 1 := rfl
    exact ⟨(h st.length (by omega)).trans hs.1, ih (fun k hk => h k (by omega)) hs.2⟩
theorem SK_push {u v : Int → Int} {st : List Bool} {m x : Int} {b : Bool} (h : SK u st) (hm : (st.length : Int) = m) (hv : ∀ k, k ≠ m → v k = u k) (hx : v m = x) (e : x = b2i b) : SK v (b :: st) := by
  refine ⟨by rw [hm, hx, e], SK_cg st (fun k hk => hv k (by omega)) h⟩
theorem SK_hd {u : Int → Int} {st : List Bool} {m : Int} (h : SK u st) (hm : (st.length : Int) = m) (h1 : 1 ≤ m) : ∃ b s2, st = b :: s2 ∧ u (m - 1) = b2i b ∧ SK u s2 ∧ (s2.length : Int) = m - 1 := by
  cases st with
  | nil => have : (([] : List Bool).length : Int) = 0 := rfl; omega
  | cons b s2 =>
    have hl : (b :: s2).length = s2.length + 1 := rfl
    refine ⟨b, s2, rfl, ?_, h.2, by omega⟩
    rw [show m - 1 = (s2.length : Int) by omega]
    exact h.1
/-- the numbers from s on -/
def sgL (u : Int → Int) (s : Int) (n : Nat) : List Int := (List.range n).map (fun k : Nat => u (s + k))
theorem sgL_s (u : Int → Int) (s : Int) (n : Nat) : sgL u s (n + 1) = sgL u s n ++ [u (s + n)] := by
  unfold sgL
  rw [List.range_succ, List.map_append]
  rfl
theorem sgL_cg {u v : Int → Int} {s t : Int} (n : Nat) (h : ∀ k : Nat, k < n → u (s + k) = v (t + k)) : sgL u s n = sgL v t n := by
  unfold sgL
  refine List.map_congr_left fun k hk => h k (List.mem_range.mp hk)
theorem runR_1 (e : Ev) (l : List Int) (x : Int) (st : List Bool) : runR e (l ++ [x]) st = stR e x (runR e l st) := by
  rw [runR_app]
  rfl
/-- at worth's loop -/
def WTI (e : Ev) (u P : Int → Int) (s k m : Int) : Prop := SK P (runR e (sgL u s (k - s).toNat) []) ∧ ((runR e (sgL u s (k - s).toNat) []).length : Int) = m
theorem WTI_0 (e : Ev) (u P : Int → Int) (s : Int) : WTI e u P s s 0 := by
  unfold WTI
  rw [Int.sub_self]
  exact ⟨trivial, rfl⟩
theorem WTI_st {e : Ev} {u P P2 : Int → Int} {s k m m2 v : Int} (h : WTI e u P s k m) (hk : s ≤ k) (hv : u k = v) (h2 : ∀ st : List Bool, SK P st → (st.length : Int) = m → SK P2 (stR e v st) ∧ ((stR e v st).length : Int) = m2) : WTI e u P2 s (k + 1) m2 := by
  unfold WTI
  rw [show (k + 1 - s).toNat = (k - s).toNat + 1 by omega, sgL_s, runR_1, show s + ((k - s).toNat : Int) = k by omega, hv]
  exact h2 _ h.1 h.2
section WTs
variable {e : Ev} {P P2 : Int → Int} {st : List Bool} {m v x : Int}
theorem stR_10 (h : v % 16 = 10) : stR e v st = (!hd0 st) :: st.tail := if_pos h
theorem stR_13 (h : v % 16 = 13) : stR e v st = sayv (e (20 + v / 16 % 128)) (hd0 st) :: st.tail := (if_neg (by omega)).trans (if_pos h)
theorem stR_11 (h : v % 16 = 11) : stR e v st = (hd0 st.tail && hd0 st) :: st.tail.tail := (if_neg (by omega)).trans ((if_neg (by omega)).trans (if_pos h))
theorem stR_12 (h : v % 16 = 12) : stR e v st = (hd0 st.tail || hd0 st) :: st.tail.tail := (if_neg (by omega)).trans ((if_neg (by omega)).trans ((if_neg (by omega)).trans (if_pos h)))
/-- what an ATOM answers -/
def atR (e : Ev) (v : Int) : Bool :=
  if v % 16 = 1 then decide (e (v / 16 % 128) = v / 2048)
    else if v % 16 = 2 then decide (e (v / 16 % 128) = e (v / 2048))
    else if v % 16 = 3 then decide (e 10 = v / 16 % 128)
    else if v % 16 = 4 then decide (e 11 = v / 16 % 128)
    else if v % 16 = 5 then decide (cnt e (v / 16 % 128) < v / 2048)
    else if v % 16 = 6 then decide (cnt e (v / 16 % 128) = v / 2048)
    else if v % 16 = 7 then decide (cnt e (v / 16 % 128) > v / 2048)
    else if v % 16 = 8 then decide (e 12 = v / 16 % 128)
    else decide (e (30 + v / 16 % 128) = 1)
theorem stR_at (h : v % 16 ≤ 9) : stR e v st = atR e v :: st := (if_neg (by omega)).trans ((if_neg (by omega)).trans ((if_neg (by omega)).trans (if_neg (by omega))))
theorem W_not (hs : SK P st) (hm : (st.length : Int) = m) (h1 : 1 ≤ m) (hv : v % 16 = 10) (hP : ∀ k, k ≠ m - 1 → P2 k = P k) (hx : P2 (m - 1) = x) (e9 : x = 1 - P (m - 1)) : SK P2 (stR e v st) ∧ ((stR e v st).length : Int) = m := by
  obtain ⟨b, s2, rfl, h3, h4, h5⟩ := SK_hd hs hm h1
  rw [stR_10 hv]
  refine ⟨SK_push h4 h5 hP hx ?_, ?_⟩
  · show x = b2i (!b)
    rw [e9, h3]
    cases b <;> rfl
  · show (((!b) :: s2).length : Int) = m
    rw [List.length_cons]
    omega
theorem W_say {l : Int} (hs : SK P st) (hm : (st.length : Int) = m) (h1 : 1 ≤ m) (hv : v % 16 = 13) (hl : l = e (20 + v / 16 % 128)) (hP : ∀ k, k ≠ m - 1 → P2 k = P k) (hx : P2 (m - 1) = x) (e9 : (l = 2 ∧ x = 1) ∨ (l ≠ 2 ∧ l = 1 ∧ x = 1 - P (m - 1)) ∨ (l ≠ 2 ∧ l ≠ 1 ∧ x = P (m - 1))) : SK P2 (stR e v st) ∧ ((stR e v st).length : Int) = m := by
  obtain ⟨b, s2, rfl, h3, h4, h5⟩ := SK_hd hs hm h1
  rw [stR_13 hv, ← hl]
  refine ⟨SK_push h4 h5 hP hx ?_, ?_⟩
  · show x = b2i (sayv l b)
    unfold sayv
    rcases e9 with ⟨a, c⟩ | ⟨a, a2, c⟩ | ⟨a, a2, c⟩
    · rw [if_pos a, c]; rfl
    · rw [if_neg a, if_pos a2, c, h3]
      cases b <;> rfl
    · rw [if_neg a, if_neg a2, c, h3]
  · show ((_ :: s2).length : Int) = m
    rw [List.length_cons]
    omega
theorem W_bin (hs : SK P st) (hm : (st.length : Int) = m) (h1 : 2 ≤ m) (hP : ∀ k, k ≠ m - 1 - 1 → P2 k = P k) (hx : P2 (m - 1 - 1) = x) (e9 : (v % 16 = 11 ∧ x = ((P (m - 1 - 1)).toNat &&& (P (m - 1)).toNat : Nat)) ∨ (v % 16 = 12 ∧ x = ((P (m - 1 - 1)).toNat ||| (P (m - 1)).toNat : Nat))) : SK P2 (stR e v st) ∧ ((stR e v st).length : Int) = m - 1 := by
  obtain ⟨b, s2, rfl, h3, h4, h5⟩ := SK_hd hs hm (by omega)
  obtain ⟨c, s3, rfl, h6, h7, h8⟩ := SK_hd h4 h5 (by omega)
  rcases e9 with ⟨a, d⟩ | ⟨a, d⟩
  · rw [stR_11 a]
    refine ⟨SK_push h7 h8 hP hx ?_, ?_⟩
    · show x = b2i (c && b)
      rw [d, h3, h6]
      cases b <;> cases c <;> decide
    · show ((_ :: s3).length : Int) = m - 1
      rw [List.length_cons]
      omega
  · rw [stR_12 a]
    refine ⟨SK_push h7 h8 hP hx ?_, ?_⟩
    · show x = b2i (c || b)
      rw [d, h3, h6]
      cases b <;> cases c <;> decide
    · show ((_ :: s3).length : Int) = m - 1
      rw [List.length_cons]
      omega
theorem W_at (hs : SK P st) (hm : (st.length : Int) = m) (hv : v % 16 ≤ 9) (hP : ∀ k, k ≠ m → P2 k = P k) (hx : P2 m = x) (e9 : x = b2i (atR e v)) : SK P2 (stR e v st) ∧ ((stR e v st).length : Int) = m + 1 := by
  rw [stR_at hv]
  refine ⟨SK_push hs hm hP hx e9, ?_⟩
  rw [List.length_cons]
  omega
end WTs
theorem tpF_s {u : Int → Int} {p v e : Int} (h : 0 ≤ e) : tpF u p v (e + 1).toNat = if u e = p then 1 - tpF u p v e.toNat else tpF u p v e.toNat := by
  rw [show (e + 1).toNat = e.toNat + 1 by omega]
  show (if u (e.toNat : Nat) = p then _ else _) = _
  rw [show ((e.toNat : Nat) : Int) = e by omega]
theorem cnK_s {e : Ev} {k p : Int} (h : 0 ≤ p) : cnK e k (p + 1).toNat = cnK e k p.toNat + (if e p = k then 1 else 0) := by
  rw [show (p + 1).toNat = p.toNat + 1 by omega]
  show cnK e k p.toNat + (if e (p.toNat : Nat) = k then 1 else 0) = _
  rw [show ((p.toNat : Nat) : Int) = p by omega]
theorem cnK_cg {e e2 : Ev} {k : Int} : ∀ n : Nat, (∀ j : Nat, j < n → e j = e2 j) → cnK e k n = cnK e2 k n := by
  intro n
  induction n with
  | zero => intro _; rfl
  | succ n ih =>
    intro h
    show cnK e k n + (if e n = k then 1 else 0) = cnK e2 k n + (if e2 n = k then 1 else 0)
    rw [ih (fun j hj => h j (by omega)), h n (by omega)]
theorem cnt_M {M : Mm} {w t so k : Int} (h7 : M 739 1 ≤ 7) : cnt (evF M w t so) k = cnK (fun q => kiF M w q) k (M 739 1).toNat := by
  unfold cnt
  rw [evF_13]
  exact cnK_cg _ fun j hj => evF_k (by omega)
/-! an ATOM's answers -/
section ATs
variable {e : Ev} {V z a b : Int}
theorem at_1 (h : V % 16 = 1) (ha : V / 16 % 128 = a) (hb : V / 2048 = b) (hz : (e a = b ∧ z = 1) ∨ (¬ e a = b ∧ z = 0)) : z = b2i (atR e V) := by
  unfold atR
  rw [if_pos h, ha, hb]
  exact b2i_d hz
theorem at_2 (h : V % 16 = 2) (ha : V / 16 % 128 = a) (hb : V / 2048 = b) (hz : (e a = e b ∧ z = 1) ∨ (¬ e a = e b ∧ z = 0)) : z = b2i (atR e V) := by
  unfold atR
  rw [if_neg (by omega), if_pos h, ha, hb]
  exact b2i_d hz
theorem at_3 (h : V % 16 = 3) (ha : V / 16 % 128 = a) (hz : (e 10 = a ∧ z = 1) ∨ (¬ e 10 = a ∧ z = 0)) : z = b2i (atR e V) := by
  unfold atR
  rw [if_neg (by omega), if_neg (by omega), if_pos h, ha]
  exact b2i_d hz
theorem at_4 (h : V % 16 = 4) (ha : V / 16 % 128 = a) (hz : (e 11 = a ∧ z = 1) ∨ (¬ e 11 = a ∧ z = 0)) : z = b2i (atR e V) := by
  unfold atR
  rw [if_neg (by omega), if_neg (by omega), if_neg (by omega), if_pos h, ha]
  exact b2i_d hz
theorem at_5 (h : V % 16 = 5) (ha : V / 16 % 128 = a) (hb : V / 2048 = b) (hz : (cnt e a < b ∧ z = 1) ∨ (¬ cnt e a < b ∧ z = 0)) : z = b2i (atR e V) := by
  unfold atR
  rw [if_neg (by omega), if_neg (by omega), if_neg (by omega), if_neg (by omega), if_pos h, ha, hb]
  exact b2i_d hz
theorem at_6 (h : V % 16 = 6) (ha : V / 16 % 128 = a) (hb : V / 2048 = b) (hz : (cnt e a = b ∧ z = 1) ∨ (¬ cnt e a = b ∧ z = 0)) : z = b2i (atR e V) := by
  unfold atR
  rw [if_neg (by omega), if_neg (by omega), if_neg (by omega), if_neg (by omega), if_neg (by omega), if_pos h, ha, hb]
  exact b2i_d hz
theorem at_7 (h : V % 16 = 7) (ha : V / 16 % 128 = a) (hb : V / 2048 = b) (hz : (cnt e a > b ∧ z = 1) ∨ (¬ cnt e a > b ∧ z = 0)) : z = b2i (atR e V) := by
  unfold atR
  rw [if_neg (by omega), if_neg (by omega), if_neg (by omega), if_neg (by omega), if_neg (by omega), if_neg (by omega), if_pos h, ha, hb]
  exact b2i_d hz
theorem at_8 (h : V % 16 = 8) (ha : V / 16 % 128 = a) (hz : (e 12 = a ∧ z = 1) ∨ (¬ e 12 = a ∧ z = 0)) : z = b2i (atR e V) := by
  unfold atR
  rw [if_neg (by omega), if_neg (by omega), if_neg (by omega), if_neg (by omega), if_neg (by omega), if_neg (by omega), if_neg (by omega), if_pos h, ha]
  exact b2i_d hz
theorem at_9 (h : V % 16 = 9) (ha : V / 16 % 128 = a) (hz : (e (30 + a) = 1 ∧ z = 1) ∨ (¬ e (30 + a) = 1 ∧ z = 0)) : z = b2i (atR e V) := by
  unfold atR
  rw [if_neg (by omega), if_neg (by omega), if_neg (by omega), if_neg (by omega), if_neg (by omega), if_neg (by omega), if_neg (by omega), if_neg (by omega), ha]
  exact b2i_d hz
end ATs
/-- the model's worlds stay -/
theorem evF_sm {M M2 : Mm} {w t so : Int} (h : Sm fg_EV M M2) : evF M2 w t so = evF M w t so := by
  have a1 : ∀ k, M2 742 k = M 742 k := fun k => h.at (gr_742 (by decide) (by decide) k) rfl
  have a2 : ∀ k, M2 743 k = M 743 k := fun k => h.at (gr_743 (by decide) (by decide) k) rfl
  have a3 : ∀ k, M2 744 k = M 744 k := fun k => h.at (gr_744 (by decide) (by decide) k) rfl
  have a4 : ∀ k, M2 745 k = M 745 k := fun k => h.at (gr_745 (by decide) (by decide) k) rfl
  have a5 : ∀ k, M2 746 k = M 746 k := fun k => h.at (gr_746 (by decide) (by decide) k) rfl
  have a6 : (fun k => M2 748 k) = (fun k => M 748 k) := h.row (fun k => gr_748 (by decide) (by decide) k) rfl
  have a7 : M2 739 1 = M 739 1 := h.at g_739_1 rfl
  have a8 : M2 739 3 = M 739 3 := h.at g_739_3 rfl
  funext k
  unfold evF lyF kiF
  rw [a1, a2, a3, a4, a5, a6, a7, a8]
theorem lyF_sm {M M2 : Mm} {w p t : Int} (h : Sm fg_EV M M2) (h0 : 0 ≤ p) (h6 : p ≤ 6) : lyF M2 w p t = lyF M w p t := by
  rw [← evF_20 (so := 0) h0 h6, ← evF_20 (so := 0) h0 h6, evF_sm h]
/-- a row of numbers that ends by 0 -/
def LST (u : Int → Int) (s : Int) (L : List Int) : Prop := sgL u s L.length = L ∧ u (s + L.length) = 0 ∧ ∀ x ∈ L, x ≠ 0
theorem LST_cg {u v : Int → Int} {s t : Int} {L : List Int} (h : LST u s L) (e : ∀ k : Int, 0 ≤ k → k ≤ L.length → v (t + k) = u (s + k)) : LST v t L := by
  refine ⟨?_, (e L.length (by omega) (Int.le_refl _)).trans h.2.1, h.2.2⟩
  rw [← h.1]
  rw [h.1]
  exact (sgL_cg _ (fun k hk => e k (by omega) (by omega))).trans h.1
theorem LST_en {u : Int → Int} {s e : Int} {L : List Int} (h : LST u s L) (hs : SEG u s e) : e = s + L.length + 1 := by
  obtain ⟨h1, h2, h3⟩ := h
  obtain ⟨s0, s1, s2, s3⟩ := hs
  rcases Int.lt_trichotomy (s + L.length) (e - 1) with q | q | q
  · exfalso
    have := (s2 L.length (by omega)).1
    rw [h2] at this
    omega
  · omega
  · exfalso
    have hm : u (e - 1) ∈ L := by
      rw [← h1]
      unfold sgL
      refine List.mem_map.mpr ⟨(e - 1 - s).toNat, List.mem_range.mpr (by omega), ?_⟩
      show u (s + ((e - 1 - s).toNat : Nat)) = u (e - 1)
      rw [show s + (((e - 1 - s).toNat : Nat) : Int) = e - 1 by omega]
    exact h3 _ hm s3
/-- two rows of one place are one -/
theorem LST_one {u : Int → Int} {s : Int} {L L2 : List Int} (h : LST u s L) (h2 : LST u s L2) : L = L2 := by
  have key : ∀ {A B : List Int}, LST u s A → LST u s B → ¬ A.length < B.length := by
    intro A B a b q
    have hm : u (s + A.length) ∈ B := by
      rw [← b.1]
      unfold sgL
      exact List.mem_map.mpr ⟨A.length, List.mem_range.mpr q, rfl⟩
    exact b.2.2 _ hm a.2.1
  have e : L.length = L2.length := by
    have := key h h2
    have := key h2 h
    omega
  rw [← h.1, ← h2.1, e]
theorem WTI_x {e : Ev} {u P : Int → Int} {s k m x : Int} {L : List Int} (h : WTI e u P s k m) (hL : LST u s L) (hk : k = s + L.length) (hx : P 0 = x) : ∀ b, runR e L [] = [b] → x = b2i b := by
  intro b hb
  obtain ⟨h1, h2⟩ := h
  rw [show (k - s).toNat = L.length by omega, hL.1, hb] at h1
  have := h1.1
  rw [← hx, ← this]
  rfl
/-- a shift of what may be negative -/
theorem wk_shry {B : eB} {d y pc pc2 : Nat} {L : List (Option eV)} {st : List eV} {M : Mm} {Q : Nat → eV → Mm → Prop} {a b c : Nat} {z k : Int} (hr : Rw y pc pc2 1 37 a b c) (hz : -2147483648 ≤ z ∧ z < 2147483648) (hw : 0 ≤ k ∧ k ≤ 31) (hk : ∀ r : Int, -2147483648 ≤ r → r < 2147483648 → r = z / pw k → Wp B d y pc2 L (I r :: st) M Q) : Wp B d y pc L (I k :: I z :: st) M Q := by
  refine wk_ishr hr hz hw ?_
  have h1 := pw_pos k
  refine hk (z / pw k) ?_ ?_ rfl
  · rw [Int.le_ediv_iff_mul_le h1]
    have : (-2147483648) * pw k ≤ -2147483648 * 1 := Int.mul_le_mul_of_nonpos_left (by decide) (by omega)
    omega
  · rw [Int.ediv_lt_iff_lt_mul h1]
    have : 2147483648 * 1 ≤ 2147483648 * pw k := Int.mul_le_mul_of_nonneg_left (by omega) (by decide)
    omega
