/-! ===== the JDK's String.length and String.charAt of a text that lies there ===== -/
/-- what a method is called with: values, the engine's heap, what the tables say -/
def j_Pc (G : GT) (h : eH) (vs : List Value) : Array Value → State → Prop := fun v U => v = vs.toArray ∧ e_BW G h U.heap ∧ e_X G U ∧ gb G ≤ U.heap.size ∧ U.heap.size ≤ gb G + e_cn h
theorem j_blind (G : GT) (h : eH) (vs : List Value) : FrameBlind (j_Pc G h vs) := fun a U g mk q => ⟨q.1, q.2.1, e_X.warm (s := U) (U := U.calling g mk a) (State.WarmedH.refl U) q.2.2.1, q.2.2.2⟩
/-- it returns this, or nothing; the heap is the engine's as before -/
def j_Qc (G : GT) (h : eH) (v : Option Value) : Array Value → State → Outcome → State → Prop := fun _ st oc t => oc = .returned v ∧ e_BW G h t.heap ∧ st.heap.size ≤ t.heap.size
def j_Xc : String → State → State → Prop := fun _ _ _ => False
def j_Met (l : Launch) (G : GT) (h : eH) (y : MethodName) (cc : ByteArray) (nL : Nat) (ret : Option FieldType) (rm : Room) (vs : List Value) (v : Option Value) : Prop := vx_Met l y (Cond.code y cc nL ret :: GW) rm (j_Pc G h vs) (j_Qc G h v) j_Xc 0 0 (gF G)
section JC
variable {G : GT} {p : Program} {l : Launch} {e : Env} {R : Room} {s : State} {m : MethodId} {args : Array Value} {below : List Frame} {meth : Method} {c : Code} {Q : State → Prop} {pc : Nat} {h : eH}
theorem j_cont {A : Array Value} {H : Heap} {locs : List Loc} {cells slots : Nat} {ls : Array Slot} {st0 r0 : List Value} {v : Option Value} (hsh : gb G ≤ s.heap.size ∧ ∀ q, q < gb G → s.heap[q]? = (gH G)[q]?) (hH : e_HR G s h H locs)
    (hr : vx_Run p l e R s m args below meth c H locs cells slots 0 0 (F0 m pc ls st0) r0 (j_Qc G h v A) j_Xc (gF G))
    (k : ∀ (H1 : Heap) (locs1 : List Loc), e_HR G s h H1 locs1 → W p l e R s m args below meth c H1 locs1 cells slots Q (F0 m (pc + 3) ls (v.toList ++ r0))) : W p l e R s m args below meth c H locs cells slots Q (F0 m pc ls st0) := by
  intro T hT X
  rcases hr T hT X with ⟨v2, st₀, t, T', L, h0, X', hL, e1, e2, ⟨hv, hB, hsz⟩, stp⟩ | ⟨q, st₀, t, T', L, E, ce, h0, X', hL, e1, e2, hF, -⟩
  · have hHR : e_HR G s h T'.heap (locs ++ L) := by
      rw [e1]
      refine ⟨hB.1, hB.2.1, ⟨Nat.le_trans hH.2.2.1 (by rw [← h0]; exact hsz), fun q h1 h2 => ?_, fun z hz => ?_⟩⟩
      · have hq : q < gb G := Nat.lt_of_not_le h2
        rw [hB.2.2 q hq, hsh.2 q hq]
      · rcases List.mem_append.mp hz with h9 | h9
        · exact hH.2.2.2.2 z h9
        · exact hL z h9
    obtain ⟨t2, a1, b1⟩ := k T'.heap (locs ++ L) hHR T' rfl X'
    refine ⟨t2, stp t2 ?_, b1⟩
    cases hv
    exact a1
  · exact hF.elim
theorem j_pre {H : Heap} {locs : List Loc} {vs : List Value} (hX : e_X G s) (hsh : gb G ≤ s.heap.size ∧ s.heap.size ≤ gb G + e_cn h ∧ ∀ q, q < gb G → s.heap[q]? = (gH G)[q]?) (hH : e_HR G s h H locs) (hz : H.size ≤ gb G + e_cn h) {U : State} (hU : U.heap = H) (hW : s.WarmedH U.vm) : j_Pc G h vs vs.toArray U :=
  ⟨rfl, by rw [hU]; exact ⟨hH.1, hH.2.1, e_below hH.2.2 hsh.1 hsh.2.2⟩, e_X.warm hW hX, by rw [hU]; exact Nat.le_trans hsh.1 hH.2.2.1, by rw [hU]; exact hz⟩
end JC
theorem x_cmp {G : GT} {U : State} (hX : e_X G U) : va_Z "java/lang/String" "COMPACT_STRINGS" "Z" (.int 1) (gF G) U (gH G) := hX.2.2.2.2.2.2.2.2.2.1.1
theorem x_sio {G : GT} {U : State} (hX : e_X G U) : va_Zq "jdk/internal/util/Preconditions" "SIOOBE_FORMATTER" "Ljava/util/function/BiFunction;" (gF G) U (gH G) := hX.2.2.2.2.2.2.2.2.2.1.2
/-- the code rows of a good list -/
theorem j_good {y : MethodName} {cc : ByteArray} {nL : Nat} {ret : Option FieldType} (hw : Cond.code y cc nL ret ∈ GW) : GoodIn GW (Cond.code y cc nL ret :: GW) := by
  intro w hw9
  rcases List.mem_cons.mp hw9 with rfl | hw9
  · exact GW_good hw
  · exact GW_good hw9
theorem w_coder : Cond.code yJ0_coder_7d493 cJ0_coder_7d493 1 (some .byte) ∈ GW := e_w_in (i := 922) (by decide +kernel)
theorem w_lat : Cond.code yJ0_isLatin1_aae02 cJ0_isLatin1_aae02 1 (some .boolean) ∈ GW := e_w_in (i := 932) (by decide +kernel)
theorem w_lch : Cond.code yJ1_charAt_3b067 cJ1_charAt_3b067 2 (some .char) ∈ GW := e_w_in (i := 935) (by decide +kernel)
theorem w_ci : Cond.code yJ0_checkIndex_df160 cJ0_checkIndex_df160 2 none ∈ GW := e_w_in (i := 938) (by decide +kernel)
theorem w_pci : Cond.code yJ3_checkIndex_8e157 cJ3_checkIndex_8e157 3 (some .int) ∈ GW := e_w_in (i := 943) (by decide +kernel)
def j_r (f n : Nat) : Room := { frames := f, cells := 0, slots := 0, locals := n }
set_option maxHeartbeats 4000000 in
theorem j_coder {l : Launch} {G : GT} {B : eB} (hG : e_GOK G B) {h : eH} {i : Nat} (hi : i < 36) {f n : Nat} : j_Met l G h yJ0_coder_7d493 cJ0_coder_7d493 1 (some .byte) (j_r f n) [.ref (gad G (4097 + i))] (some (.int 0)) := by
  refine vx_ofW (cc := cJ0_coder_7d493) (maxL := 1) (ret := some .byte) (by decide) rfl ?_
  intro p e s m args below meth c s₁ Bd hml htab hv
  obtain ⟨rfl, hBW, hX, hsz1, hsz2⟩ := hv
  have hx := Bd.exec
  have hb := Bd.bytes
  have hr := Bd.returns
  have hlk := Bd.notSynchronized
  have hown := findClass_of_methodNamed Bd.named
  have hts : ∀ w ∈ GW, w.before ([.ref (gad G (4097 + i))] : List Value).toArray s = true := fun w hw => atoms_spec (ws := Cond.code yJ0_coder_7d493 cJ0_coder_7d493 1 (some .byte) :: GW) Bd.pre w (List.mem_cons_of_mem _ hw)
  have hS : va_S (gF G) s.heap s.heap [] := va_S.rf
  have hk : ∀ q : Nat, q < (gH G).size → ¬ gF G q → s.heap[q]? = (gH G)[q]? := fun q hq _ => hBW.2.2 q (by rw [← hG.2.2.2.1]; exact hq)
  have hZ := (x_cmp hX).kept hk
  have hK := (hX.2.2.2.2.2.2.2.2.2.2.kept hk).1 i hi
  have hl := lv_entry ([.ref (gad G (4097 + i))]) (n := 1) (Nat.le_of_ble_eq_true rfl)
  rw [lg_entry_eq]
  generalize (lg_sl ([.ref (gad G (4097 + i))]) ++ List.replicate (1 - (lg_sl ([.ref (gad G (4097 + i))])).length) Slot.unset).toArray = ls at hl ⊢
  have hl : lv_has ls 1 [(0, .ref (gad G (4097 + i)))] := hl
  refine va_gets hx hb hZ hS hown (hts _ (e_w_in (i := 923) (by decide +kernel))) (fun _ h => h) (show decode cJ0_coder_7d493 0 = .ok (.getstatic 38, 3) by decide +kernel) ?_
  refine lv_if_eq (tgt := 13) hx hb (show decode cJ0_coder_7d493 3 = .ok (.ifCond .eq 10, 3) by decide +kernel) (by decide) (fun h9 => absurd h9 (by decide)) (fun _ => ?_)
  refine lv_aload_n hx hb (show decode cJ0_coder_7d493 6 = .ok (.aload_n 0, 1) by decide +kernel) rfl (lv_at hl 0 rfl) ?_
  refine vk_getf hx hb hK.2.1 hS hown (hts _ (e_w_in (i := 1998) (by decide +kernel))) (fun _ h => h) (show decode cJ0_coder_7d493 7 = .ok (.getfield 15, 3) by decide +kernel) ?_
  refine lv_goto (tgt := 14) hx hb (show decode cJ0_coder_7d493 10 = .ok (.goto 4, 3) by decide +kernel) (by decide) ?_
  refine vx_ret ?_
  exact W.zret hx hb hr rfl (fun t ht _ => ⟨rfl, by rw [ht]; exact hBW, by rw [ht]; exact Nat.le_refl _⟩) (fun q hq => hS.2.2 q hq) (show decode cJ0_coder_7d493 14 = .ok (.ireturn, 1) by decide +kernel)
set_option maxHeartbeats 4000000 in
theorem j_lat {l : Launch} {G : GT} {B : eB} (hG : e_GOK G B) {h : eH} {i : Nat} (hi : i < 36) {f n : Nat} : j_Met l G h yJ0_isLatin1_aae02 cJ0_isLatin1_aae02 1 (some .boolean) (j_r f n) [.ref (gad G (4097 + i))] (some (.int 1)) := by
  refine vx_ofW (cc := cJ0_isLatin1_aae02) (maxL := 1) (ret := some .boolean) (by decide) rfl ?_
  intro p e s m args below meth c s₁ Bd hml htab hv
  obtain ⟨rfl, hBW, hX, hsz1, hsz2⟩ := hv
  have hx := Bd.exec
  have hb := Bd.bytes
  have hr := Bd.returns
  have hlk := Bd.notSynchronized
  have hown := findClass_of_methodNamed Bd.named
  have hts : ∀ w ∈ GW, w.before ([.ref (gad G (4097 + i))] : List Value).toArray s = true := fun w hw => atoms_spec (ws := Cond.code yJ0_isLatin1_aae02 cJ0_isLatin1_aae02 1 (some .boolean) :: GW) Bd.pre w (List.mem_cons_of_mem _ hw)
  have hS : va_S (gF G) s.heap s.heap [] := va_S.rf
  have hk : ∀ q : Nat, q < (gH G).size → ¬ gF G q → s.heap[q]? = (gH G)[q]? := fun q hq _ => hBW.2.2 q (by rw [← hG.2.2.2.1]; exact hq)
  have hZ := (x_cmp hX).kept hk
  have hK := (hX.2.2.2.2.2.2.2.2.2.2.kept hk).1 i hi
  have hl := lv_entry ([.ref (gad G (4097 + i))]) (n := 1) (Nat.le_of_ble_eq_true rfl)
  rw [lg_entry_eq]
  generalize (lg_sl ([.ref (gad G (4097 + i))]) ++ List.replicate (1 - (lg_sl ([.ref (gad G (4097 + i))])).length) Slot.unset).toArray = ls at hl ⊢
  have hl : lv_has ls 1 [(0, .ref (gad G (4097 + i)))] := hl
  refine va_gets hx hb hZ hS hown (hts _ (e_w_in (i := 923) (by decide +kernel))) (fun _ h => h) (show decode cJ0_isLatin1_aae02 0 = .ok (.getstatic 38, 3) by decide +kernel) ?_
  refine lv_if_eq (tgt := 17) hx hb (show decode cJ0_isLatin1_aae02 3 = .ok (.ifCond .eq 14, 3) by decide +kernel) (by decide) (fun h9 => absurd h9 (by decide)) (fun _ => ?_)
  refine lv_aload_n hx hb (show decode cJ0_isLatin1_aae02 6 = .ok (.aload_n 0, 1) by decide +kernel) rfl (lv_at hl 0 rfl) ?_
  refine vk_getf hx hb hK.2.1 hS hown (hts _ (e_w_in (i := 1998) (by decide +kernel))) (fun _ h => h) (show decode cJ0_isLatin1_aae02 7 = .ok (.getfield 15, 3) by decide +kernel) ?_
  refine lv_if_ne (tgt := 17) hx hb (show decode cJ0_isLatin1_aae02 10 = .ok (.ifCond .ne 7, 3) by decide +kernel) (by decide) (fun h9 => absurd rfl h9) (fun _ => ?_)
  refine lv_iconst (v := 1) hx hb (show decode cJ0_isLatin1_aae02 13 = .ok (.iconst 1, 1) by decide +kernel) (by decide) ?_
  refine lv_goto (tgt := 18) hx hb (show decode cJ0_isLatin1_aae02 14 = .ok (.goto 4, 3) by decide +kernel) (by decide) ?_
  refine vx_ret ?_
  exact W.zret hx hb hr rfl (fun t ht _ => ⟨rfl, by rw [ht]; exact hBW, by rw [ht]; exact Nat.le_refl _⟩) (fun q hq => hS.2.2 q hq) (show decode cJ0_isLatin1_aae02 18 = .ok (.ireturn, 1) by decide +kernel)
set_option maxHeartbeats 4000000 in
theorem j_pci {l : Launch} {G : GT} {h : eH} {x k : Nat} {z : Value} (hz : z = .null ∨ ∃ t, z = .ref t) (hx9 : x < k) (hk9 : k ≤ 1000) {f n : Nat} : j_Met l G h yJ3_checkIndex_8e157 cJ3_checkIndex_8e157 3 (some .int) (j_r f n) [.int (nI x), .int (nI k), z] (some (.int (nI x))) := by
  refine vx_ofW (cc := cJ3_checkIndex_8e157) (maxL := 3) (ret := some .int) (by decide) rfl ?_
  intro p e s m args below meth c s₁ Bd hml htab hv
  obtain ⟨rfl, hBW, hX, hsz1, hsz2⟩ := hv
  have hx := Bd.exec
  have hb := Bd.bytes
  have hr := Bd.returns
  have hlk := Bd.notSynchronized
  have hS : va_S (gF G) s.heap s.heap [] := va_S.rf
  have hcz : z.category = 1 := by
    rcases hz with rfl | ⟨t, rfl⟩ <;> rfl
  have hlen : (lg_sl [.int (nI x), .int (nI k), z]).length ≤ 3 := by
    rcases hz with rfl | ⟨t, rfl⟩ <;> exact Nat.le_refl 3
  have hl := lv_entry ([.int (nI x), .int (nI k), z]) (n := 3) hlen
  rw [lg_entry_eq]
  generalize (lg_sl ([.int (nI x), .int (nI k), z]) ++ List.replicate (3 - (lg_sl ([.int (nI x), .int (nI k), z])).length) Slot.unset).toArray = ls at hl ⊢
  have hl : lv_has ls 3 [(0, .int (nI x)), (1, .int (nI k)), (2, z)] := hl
  refine lv_iload_n hx hb (show decode cJ3_checkIndex_8e157 0 = .ok (.iload_n 0, 1) by decide +kernel) rfl (lv_at hl 0 rfl) ?_
  refine lv_if_lt (tgt := 9) hx hb (show decode cJ3_checkIndex_8e157 1 = .ok (.ifCond .lt 8, 3) by decide +kernel) (by decide) (fun h9 => absurd h9 (nI_pos (by omega))) (fun _ => ?_)
  refine lv_iload_n hx hb (show decode cJ3_checkIndex_8e157 4 = .ok (.iload_n 0, 1) by decide +kernel) rfl (lv_at hl 0 rfl) ?_
  refine lv_iload_n hx hb (show decode cJ3_checkIndex_8e157 5 = .ok (.iload_n 1, 1) by decide +kernel) rfl (lv_at hl 1 rfl) ?_
  refine lv_icmp_lt (tgt := 16) hx hb (show decode cJ3_checkIndex_8e157 6 = .ok (.if_icmp .lt 10, 3) by decide +kernel) (by decide) (fun _ => ?_) (fun h9 => absurd (nI_lt hx9 (by omega)) h9)
  refine lv_iload_n hx hb (show decode cJ3_checkIndex_8e157 16 = .ok (.iload_n 0, 1) by decide +kernel) rfl (lv_at hl 0 rfl) ?_
  refine vx_ret ?_
  exact W.iret hx hb hr (fun t ht _ => ⟨rfl, by rw [ht]; exact hBW, by rw [ht]; exact Nat.le_refl _⟩) (fun q hq => hS.2.2 q hq) (show decode cJ3_checkIndex_8e157 17 = .ok (.ireturn, 1) by decide +kernel)
set_option maxHeartbeats 4000000 in
theorem j_ci {l : Launch} {G : GT} {B : eB} (hG : e_GOK G B) {h : eH} {x k : Nat} (hx9 : x < k) (hk9 : k ≤ 1000) : j_Met l G h yJ0_checkIndex_df160 cJ0_checkIndex_df160 2 none (j_r 4 100) [.int (nI x), .int (nI k)] none := by
  refine vx_ofW (cc := cJ0_checkIndex_df160) (maxL := 2) (ret := none) (by decide) rfl ?_
  intro p e s m args below meth c s₁ Bd hml htab hv
  obtain ⟨rfl, hBW, hX, hsz1, hsz2⟩ := hv
  have hx := Bd.exec
  have hb := Bd.bytes
  have hr := Bd.returns
  have hlk := Bd.notSynchronized
  have hown := findClass_of_methodNamed Bd.named
  have hts : ∀ w ∈ GW, w.before ([.int (nI x), .int (nI k)] : List Value).toArray s = true := fun w hw => atoms_spec (ws := Cond.code yJ0_checkIndex_df160 cJ0_checkIndex_df160 2 none :: GW) Bd.pre w (List.mem_cons_of_mem _ hw)
  have hS : va_S (gF G) s.heap s.heap [] := va_S.rf
  have hH : e_HR G s h s.heap [] := ⟨hBW.1, hBW.2.1, hS⟩
  have hk : ∀ q : Nat, q < (gH G).size → ¬ gF G q → s.heap[q]? = (gH G)[q]? := fun q hq _ => hBW.2.2 q (by rw [← hG.2.2.2.1]; exact hq)
  have hl := lv_entry ([.int (nI x), .int (nI k)]) (n := 2) (Nat.le_of_ble_eq_true rfl)
  rw [lg_entry_eq]
  generalize (lg_sl ([.int (nI x), .int (nI k)]) ++ List.replicate (2 - (lg_sl ([.int (nI x), .int (nI k)])).length) Slot.unset).toArray = ls at hl ⊢
  have hl : lv_has ls 2 [(0, .int (nI x)), (1, .int (nI k))] := hl
  refine lv_iload_n hx hb (show decode cJ0_checkIndex_df160 0 = .ok (.iload_n 0, 1) by decide +kernel) rfl (lv_at hl 0 rfl) ?_
  refine lv_iload_n hx hb (show decode cJ0_checkIndex_df160 1 = .ok (.iload_n 1, 1) by decide +kernel) rfl (lv_at hl 1 rfl) ?_
  obtain ⟨z, hz, hZ⟩ : ∃ z : Value, (z = .null ∨ ∃ t, z = .ref t) ∧ va_Z "jdk/internal/util/Preconditions" "SIOOBE_FORMATTER" "Ljava/util/function/BiFunction;" z (gF G) s (gH G) := by
    rcases x_sio hX with q | ⟨t, q⟩
    · exact ⟨_, Or.inl rfl, q⟩
    · exact ⟨_, Or.inr ⟨t, rfl⟩, q⟩
  refine va_gets hx hb (hZ.kept hk) hS hown (hts _ (e_w_in (i := 939) (by decide +kernel))) (fun _ h => h) (show decode cJ0_checkIndex_df160 2 = .ok (.getstatic 1053, 3) by decide +kernel) ?_
  have hrun := vx_runS (e := e) (below := below) (meth := meth) (R := j_r 4 100) (H := s.heap) (locs := []) (cells := 0) (slots := 0) (As := [.int (nI x), .int (nI k), z]) (rest := []) (g := F0 m 5 ls [z, .int (nI k), .int (nI x)]) ⟨hx, hb, hml, hown, hts⟩ (j_pci (l := l) (G := G) (h := h) hz hx9 hk9 (f := 3) (n := 60)) ⟨callB_of 3 hts (j_good w_pci) rfl rfl rfl (hts _ (e_w_in (i := 131) (by decide +kernel))) (hts _ (e_w_in (i := 941) (by decide +kernel))) (by decide) ⟨by decide, by decide⟩, hts _ (e_w_in (i := 942) (by decide +kernel))⟩ ⟨j_blind G h _, fun U hU hW => j_pre hX ⟨hsz1, hsz2, hBW.2.2⟩ hH hsz2 hU hW⟩ rfl rfl hl.1 rfl (lv_room (m := m) (pc := 5) (ls := ls) (rest := [z, .int (nI k), .int (nI x)]) (st := []) (Nat.zero_le _)) (show decode cJ0_checkIndex_df160 5 = .ok (.invokestatic 1059, 3) by decide +kernel) ⟨Nat.le_refl _, Nat.le_refl _⟩
  refine j_cont ⟨hsz1, hBW.2.2⟩ hH hrun (fun H1 locs1 hH1 => ?_)
  refine lv_pop hx hb (show decode cJ0_checkIndex_df160 8 = .ok (.pop, 1) by decide +kernel) rfl ?_
  refine vx_ret ?_
  exact W.vret hx hb hr (fun t ht _ => ⟨rfl, e_BWof hH1 hsz1 hBW.2.2 ht⟩) (fun q hq => hH1.2.2.2.2 q hq) (show decode cJ0_checkIndex_df160 9 = .ok (.return_, 1) by decide +kernel)
theorem j_sh0 (x : Int32) : x >>> ((0 : Int32) &&& 31) = x := by
  rw [show ((0 : Int32) &&& 31) = 0 by decide]
  exact Int32.shiftRight_zero
theorem j_chrb : (List.range 36).all (fun i => (List.range (lenS.getD i 0)).all fun x => decide ((((((bytS.getD i []).getD x 0) &&& 255).toUInt32 % 65536).toInt32 = nI ((bytN.getD i []).getD x 0)) ∧ (bytN.getD i []).getD x 0 < 128)) = true := by decide +kernel
theorem j_lenb : (List.range 36).all (fun i => Nat.ble (lenS.getD i 0) 40) = true := by decide +kernel
theorem j_chr {i x : Nat} (hi : i < 36) (hx : x < lenS.getD i 0) : ((((bytS.getD i []).getD x 0) &&& 255).toUInt32 % 65536).toInt32 = nI ((bytN.getD i []).getD x 0) ∧ (bytN.getD i []).getD x 0 < 128 := of_decide_eq_true (List.all_eq_true.mp (List.all_eq_true.mp j_chrb i (List.mem_range.mpr hi)) x (List.mem_range.mpr hx))
theorem j_len40 {i : Nat} (hi : i < 36) : lenS.getD i 0 ≤ 40 := Nat.le_of_ble_eq_true (List.all_eq_true.mp j_lenb i (List.mem_range.mpr hi))
theorem j_nar : (List.range 128).all (fun n => decide (narrow .char (.int (nI n)) = .int (nI n))) = true := by decide +kernel
set_option maxHeartbeats 4000000 in
theorem j_lch {l : Launch} {G : GT} {B : eB} (hG : e_GOK G B) {h : eH} {i x : Nat} (hi : i < 36) (hx9 : x < lenS.getD i 0) : j_Met l G h yJ1_charAt_3b067 cJ1_charAt_3b067 2 (some .char) (j_r 5 150) [.ref (gad G (4300 + i)), .int (nI x)] (some (.int (nI ((bytN.getD i []).getD x 0)))) := by
  refine vx_ofW (cc := cJ1_charAt_3b067) (maxL := 2) (ret := (some .char)) (by decide) rfl ?_
  intro p e s m args below meth c s₁ Bd hml htab hv
  obtain ⟨rfl, hBW, hX, hsz1, hsz2⟩ := hv
  have hx := Bd.exec
  have hb := Bd.bytes
  have hr := Bd.returns
  have hlk := Bd.notSynchronized
  have hown := findClass_of_methodNamed Bd.named
  have hts : ∀ w ∈ GW, w.before ([.ref (gad G (4300 + i)), .int (nI x)] : List Value).toArray s = true := fun w hw => atoms_spec (ws := Cond.code yJ1_charAt_3b067 cJ1_charAt_3b067 2 (some .char) :: GW) Bd.pre w (List.mem_cons_of_mem _ hw)
  have hS : va_S (gF G) s.heap s.heap [] := va_S.rf
  have hH : e_HR G s h s.heap [] := ⟨hBW.1, hBW.2.1, hS⟩
  have hk : ∀ q : Nat, q < (gH G).size → ¬ gF G q → s.heap[q]? = (gH G)[q]? := fun q hq _ => hBW.2.2 q (by rw [← hG.2.2.2.1]; exact hq)
  have hl := lv_entry ([.ref (gad G (4300 + i)), .int (nI x)]) (n := 2) (Nat.le_of_ble_eq_true rfl)
  rw [lg_entry_eq]
  generalize (lg_sl ([.ref (gad G (4300 + i)), .int (nI x)]) ++ List.replicate (2 - (lg_sl ([.ref (gad G (4300 + i)), .int (nI x)])).length) Slot.unset).toArray = ls at hl ⊢
  have hl : lv_has ls 2 [(0, .ref (gad G (4300 + i))), (1, .int (nI x))] := hl
  have hK := (hX.2.2.2.2.2.2.2.2.2.2.kept hk).1 i hi
  have h40 := j_len40 hi
  refine lv_iload_n hx hb (show decode cJ1_charAt_3b067 0 = .ok (.iload_n 1, 1) by decide +kernel) rfl (lv_at hl 1 rfl) ?_
  refine lv_aload_n hx hb (show decode cJ1_charAt_3b067 1 = .ok (.aload_n 0, 1) by decide +kernel) rfl (lv_at hl 0 rfl) ?_
  refine va_tlen hx hb hK.2.2.2 hS (v := nI (lenS.getD i 0)) rfl (show decode cJ1_charAt_3b067 2 = .ok (.arraylength, 1) by decide +kernel) ?_
  have hrun := vx_runS (e := e) (below := below) (meth := meth) (R := j_r 5 150) (H := s.heap) (locs := []) (cells := 0) (slots := 0) (As := [.int (nI x), .int (nI (lenS.getD i 0))]) (rest := []) (g := F0 m 3 ls [.int (nI (lenS.getD i 0)), .int (nI x)]) ⟨hx, hb, hml, hown, hts⟩ (j_ci (l := l) (h := h) hG hx9 (by omega)) ⟨callB_of 2 hts (j_good w_ci) rfl rfl rfl (hts _ (e_w_in (i := 129) (by decide +kernel))) (hts _ (e_w_in (i := 936) (by decide +kernel))) (by decide) ⟨by decide, by decide⟩, hts _ (e_w_in (i := 937) (by decide +kernel))⟩ ⟨j_blind G h _, fun U hU hW => j_pre hX ⟨hsz1, hsz2, hBW.2.2⟩ hH hsz2 hU hW⟩ rfl rfl hl.1 rfl (lv_room (m := m) (pc := 3) (ls := ls) (rest := [.int (nI (lenS.getD i 0)), .int (nI x)]) (st := []) (Nat.zero_le _)) (show decode cJ1_charAt_3b067 3 = .ok (.invokestatic 9, 3) by decide +kernel) ⟨Nat.le_refl _, Nat.le_refl _⟩
  refine j_cont ⟨hsz1, hBW.2.2⟩ hH hrun (fun H1 locs1 hH1 => ?_)
  refine lv_aload_n hx hb (show decode cJ1_charAt_3b067 6 = .ok (.aload_n 0, 1) by decide +kernel) rfl (lv_at hl 0 rfl) ?_
  refine lv_iload_n hx hb (show decode cJ1_charAt_3b067 7 = .ok (.iload_n 1, 1) by decide +kernel) rfl (lv_at hl 1 rfl) ?_
  have hcl : (nI x).toNatClampNeg = x := nI_clamp (by omega)
  refine va_tb hx hb hK.2.2.2 hH1.2.2 (i := nI x) (fun q => by rcases q with q | q; (exact absurd q (nI_pos (by omega))); (rw [hcl] at q; omega)) (v := .int ((bytS.getD i []).getD x 0)) (by rw [hcl]) (show decode cJ1_charAt_3b067 8 = .ok (.baload, 1) by decide +kernel) ?_
  refine lv_sipush (v := 255) hx hb (show decode cJ1_charAt_3b067 9 = .ok (.sipush 255, 3) by decide +kernel) (by decide) ?_
  refine lv_iand hx hb (show decode cJ1_charAt_3b067 12 = .ok (.iand, 1) by decide +kernel) ?_
  refine lv_i2c (v := nI ((bytN.getD i []).getD x 0)) hx hb (show decode cJ1_charAt_3b067 13 = .ok (.i2c, 1) by decide +kernel) (j_chr hi hx9).1 ?_
  refine vx_ret ?_
  exact W.zret hx hb hr (of_decide_eq_true (List.all_eq_true.mp j_nar _ (List.mem_range.mpr (j_chr hi hx9).2))) (fun t ht _ => ⟨rfl, e_BWof hH1 hsz1 hBW.2.2 ht⟩) (fun q hq => hH1.2.2.2.2 q hq) (show decode cJ1_charAt_3b067 14 = .ok (.ireturn, 1) by decide +kernel)
set_option maxHeartbeats 4000000 in
theorem j_len {l : Launch} {G : GT} {B : eB} (hG : e_GOK G B) {h : eH} {i d : Nat} (hi : i < 36) : j_Met l G h yJ0_length_8abf5 cJ0_length_8abf5 1 (some .int) (e_rm (d + 1) 0 0) [.ref (gad G (4097 + i))] (some (.int (nI (lenS.getD i 0)))) := by
  refine vx_ofW (cc := cJ0_length_8abf5) (maxL := 1) (ret := (some .int)) (by decide) rfl ?_
  intro p e s m args below meth c s₁ Bd hml htab hv
  obtain ⟨rfl, hBW, hX, hsz1, hsz2⟩ := hv
  have hx := Bd.exec
  have hb := Bd.bytes
  have hr := Bd.returns
  have hlk := Bd.notSynchronized
  have hown := findClass_of_methodNamed Bd.named
  have hts : ∀ w ∈ GW, w.before ([.ref (gad G (4097 + i))] : List Value).toArray s = true := fun w hw => atoms_spec (ws := Cond.code yJ0_length_8abf5 cJ0_length_8abf5 1 (some .int) :: GW) Bd.pre w (List.mem_cons_of_mem _ hw)
  have hS : va_S (gF G) s.heap s.heap [] := va_S.rf
  have hH : e_HR G s h s.heap [] := ⟨hBW.1, hBW.2.1, hS⟩
  have hk : ∀ q : Nat, q < (gH G).size → ¬ gF G q → s.heap[q]? = (gH G)[q]? := fun q hq _ => hBW.2.2 q (by rw [← hG.2.2.2.1]; exact hq)
  have hl := lv_entry ([.ref (gad G (4097 + i))]) (n := 1) (Nat.le_of_ble_eq_true rfl)
  rw [lg_entry_eq]
  generalize (lg_sl ([.ref (gad G (4097 + i))]) ++ List.replicate (1 - (lg_sl ([.ref (gad G (4097 + i))])).length) Slot.unset).toArray = ls at hl ⊢
  have hl : lv_has ls 1 [(0, .ref (gad G (4097 + i)))] := hl
  have hK0 := hX.2.2.2.2.2.2.2.2.2.2.kept hk
  have hK := hK0.1 i hi
  have h40 := j_len40 hi
  refine lv_aload_n hx hb (show decode cJ0_length_8abf5 0 = .ok (.aload_n 0, 1) by decide +kernel) rfl (lv_at hl 0 rfl) ?_
  refine vk_getf hx hb hK.2.2.1 hS hown (hts _ (e_w_in (i := 1997) (by decide +kernel))) (fun _ h => h) (show decode cJ0_length_8abf5 1 = .ok (.getfield 9, 3) by decide +kernel) ?_
  refine va_tlen hx hb hK.2.2.2 hS (v := nI (lenS.getD i 0)) rfl (show decode cJ0_length_8abf5 4 = .ok (.arraylength, 1) by decide +kernel) ?_
  refine lv_aload_n hx hb (show decode cJ0_length_8abf5 5 = .ok (.aload_n 0, 1) by decide +kernel) rfl (lv_at hl 0 rfl) ?_
  have hrun := vx_runV (e := e) (below := below) (meth := meth) (R := e_rm (d + 1) 0 0) (H := s.heap) (locs := []) (cells := 0) (slots := 0) (As := []) (b := gad G (4097 + i)) (C := "java/lang/String") (rest := [.int (nI (lenS.getD i 0))]) (g := F0 m 6 ls [.ref (gad G (4097 + i)), .int (nI (lenS.getD i 0))]) ⟨hx, hb, hml, hown, hts⟩ (j_coder (l := l) (h := h) hG hi (f := 3) (n := 60)) (cwV 0 hts (e_good4 (e_w_in (i := 919) (by decide +kernel)) (e_w_in (i := 920) (by decide +kernel)) (e_w_in (i := 921) (by decide +kernel)) (e_w_in (i := 129) (by decide +kernel)) (j_good w_coder)) rfl rfl rfl ⟨rfl, by decide⟩ ⟨by show 3 + 1 ≤ d + 1 + 10; omega, by show 8 + (1 + 11) + 60 ≤ 60 * (d + 1) + 200; omega⟩) ⟨j_blind G h _, vk_recv (i := i) hK0 hi hS, fun U hU hW => j_pre hX ⟨hsz1, hsz2, hBW.2.2⟩ hH hsz2 hU hW⟩ rfl rfl hl.1 rfl (lv_room (m := m) (pc := 6) (ls := ls) (rest := [.ref (gad G (4097 + i)), .int (nI (lenS.getD i 0))]) (st := [.int (nI (lenS.getD i 0))]) (Nat.le_of_ble_eq_true rfl)) (show decode cJ0_length_8abf5 6 = .ok (.invokevirtual 335, 3) by decide +kernel) ⟨Nat.le_refl _, Nat.le_refl _⟩
  refine j_cont ⟨hsz1, hBW.2.2⟩ hH hrun (fun H1 locs1 hH1 => ?_)
  refine lv_ishr hx hb (show decode cJ0_length_8abf5 9 = .ok (.ishr, 1) by decide +kernel) ?_
  rw [show nI (lenS.getD i 0) >>> ((0 : Int32) &&& 31) = nI (lenS.getD i 0) from j_sh0 _]
  refine vx_ret ?_
  exact W.iret hx hb hr (fun t ht _ => ⟨rfl, e_BWof hH1 hsz1 hBW.2.2 ht⟩) (fun q hq => hH1.2.2.2.2 q hq) (show decode cJ0_length_8abf5 10 = .ok (.ireturn, 1) by decide +kernel)
set_option maxHeartbeats 4000000 in
theorem j_cha {l : Launch} {G : GT} {B : eB} (hG : e_GOK G B) {h : eH} {i x d : Nat} (hi : i < 36) (hx9 : x < lenS.getD i 0) : j_Met l G h yJ0_charAt_5068e cJ0_charAt_5068e 2 (some .char) (e_rm (d + 1) 0 0) [.ref (gad G (4097 + i)), .int (nI x)] (some (.int (nI ((bytN.getD i []).getD x 0)))) := by
  refine vx_ofW (cc := cJ0_charAt_5068e) (maxL := 2) (ret := (some .char)) (by decide) rfl ?_
  intro p e s m args below meth c s₁ Bd hml htab hv
  obtain ⟨rfl, hBW, hX, hsz1, hsz2⟩ := hv
  have hx := Bd.exec
  have hb := Bd.bytes
  have hr := Bd.returns
  have hlk := Bd.notSynchronized
  have hown := findClass_of_methodNamed Bd.named
  have hts : ∀ w ∈ GW, w.before ([.ref (gad G (4097 + i)), .int (nI x)] : List Value).toArray s = true := fun w hw => atoms_spec (ws := Cond.code yJ0_charAt_5068e cJ0_charAt_5068e 2 (some .char) :: GW) Bd.pre w (List.mem_cons_of_mem _ hw)
  have hS : va_S (gF G) s.heap s.heap [] := va_S.rf
  have hH : e_HR G s h s.heap [] := ⟨hBW.1, hBW.2.1, hS⟩
  have hk : ∀ q : Nat, q < (gH G).size → ¬ gF G q → s.heap[q]? = (gH G)[q]? := fun q hq _ => hBW.2.2 q (by rw [← hG.2.2.2.1]; exact hq)
  have hl := lv_entry ([.ref (gad G (4097 + i)), .int (nI x)]) (n := 2) (Nat.le_of_ble_eq_true rfl)
  rw [lg_entry_eq]
  generalize (lg_sl ([.ref (gad G (4097 + i)), .int (nI x)]) ++ List.replicate (2 - (lg_sl ([.ref (gad G (4097 + i)), .int (nI x)])).length) Slot.unset).toArray = ls at hl ⊢
  have hl : lv_has ls 2 [(0, .ref (gad G (4097 + i))), (1, .int (nI x))] := hl
  have hK0 := hX.2.2.2.2.2.2.2.2.2.2.kept hk
  have hK := hK0.1 i hi
  refine lv_aload_n hx hb (show decode cJ0_charAt_5068e 0 = .ok (.aload_n 0, 1) by decide +kernel) rfl (lv_at hl 0 rfl) ?_
  have hrun := vx_runV (e := e) (below := below) (meth := meth) (R := e_rm (d + 1) 0 0) (H := s.heap) (locs := []) (cells := 0) (slots := 0) (As := []) (b := gad G (4097 + i)) (C := "java/lang/String") (rest := []) (g := F0 m 1 ls [.ref (gad G (4097 + i))]) ⟨hx, hb, hml, hown, hts⟩ (j_lat (l := l) (h := h) hG hi (f := 3) (n := 60)) (cwV 0 hts (e_good4 (e_w_in (i := 929) (by decide +kernel)) (e_w_in (i := 930) (by decide +kernel)) (e_w_in (i := 931) (by decide +kernel)) (e_w_in (i := 129) (by decide +kernel)) (j_good w_lat)) rfl rfl rfl ⟨rfl, by decide⟩ ⟨by show 3 + 1 ≤ d + 1 + 10; omega, by show 8 + (1 + 11) + 60 ≤ 60 * (d + 1) + 200; omega⟩) ⟨j_blind G h _, vk_recv (i := i) hK0 hi hS, fun U hU hW => j_pre hX ⟨hsz1, hsz2, hBW.2.2⟩ hH hsz2 hU hW⟩ rfl rfl hl.1 rfl (lv_room (m := m) (pc := 1) (ls := ls) (rest := [.ref (gad G (4097 + i))]) (st := []) (by decide)) (show decode cJ0_charAt_5068e 1 = .ok (.invokevirtual 492, 3) by decide +kernel) ⟨Nat.le_refl _, Nat.le_refl _⟩
  refine j_cont ⟨hsz1, hBW.2.2⟩ hH hrun (fun H1 locs1 hH1 => ?_)
  refine e_sized fun hz9 => ?_
  refine lv_if_eq (tgt := 16) hx hb (show decode cJ0_charAt_5068e 4 = .ok (.ifCond .eq 12, 3) by decide +kernel) (by decide) (fun h9 => absurd h9 (by decide)) (fun _ => ?_)
  refine lv_aload_n hx hb (show decode cJ0_charAt_5068e 7 = .ok (.aload_n 0, 1) by decide +kernel) rfl (lv_at hl 0 rfl) ?_
  refine vk_getf hx hb hK.2.2.1 hH1.2.2 hown (hts _ (e_w_in (i := 1997) (by decide +kernel))) (fun _ h => h) (show decode cJ0_charAt_5068e 8 = .ok (.getfield 9, 3) by decide +kernel) ?_
  refine lv_iload_n hx hb (show decode cJ0_charAt_5068e 11 = .ok (.iload_n 1, 1) by decide +kernel) rfl (lv_at hl 1 rfl) ?_
  have hrun2 := vx_runS (e := e) (below := below) (meth := meth) (R := e_rm (d + 1) 0 0) (H := H1) (locs := locs1) (cells := 0) (slots := 0) (As := [.ref (gad G (4300 + i)), .int (nI x)]) (rest := []) (g := F0 m 12 ls [.int (nI x), .ref (gad G (4300 + i))]) ⟨hx, hb, hml, hown, hts⟩ (j_lch (l := l) (h := h) hG hi hx9) ⟨callB_of 2 hts (j_good w_lch) rfl rfl rfl (hts _ (e_w_in (i := 130) (by decide +kernel))) (hts _ (e_w_in (i := 933) (by decide +kernel))) (by decide) ⟨by show 5 + 1 ≤ d + 1 + 10; omega, by show 8 + (2 + 11) + 150 ≤ 60 * (d + 1) + 200; omega⟩, hts _ (e_w_in (i := 934) (by decide +kernel))⟩ ⟨j_blind G h _, fun U hU hW => j_pre hX ⟨hsz1, hsz2, hBW.2.2⟩ hH1 (by omega) hU hW⟩ rfl rfl hl.1 rfl (lv_room (m := m) (pc := 12) (ls := ls) (rest := [.int (nI x), .ref (gad G (4300 + i))]) (st := []) (by decide)) (show decode cJ0_charAt_5068e 12 = .ok (.invokestatic 495, 3) by decide +kernel) ⟨Nat.le_refl _, Nat.le_refl _⟩
  refine j_cont ⟨hsz1, hBW.2.2⟩ hH1 hrun2 (fun H2 locs2 hH2 => ?_)
  refine vx_ret ?_
  exact W.zret hx hb hr (of_decide_eq_true (List.all_eq_true.mp j_nar _ (List.mem_range.mpr (j_chr hi hx9).2))) (fun t ht _ => ⟨rfl, e_BWof hH2 hsz1 hBW.2.2 ht⟩) (fun q hq => hH2.2.2.2.2 q hq) (show decode cJ0_charAt_5068e 15 = .ok (.ireturn, 1) by decide +kernel)
theorem j_mono {l : Launch} {y : MethodName} {ws : List Cond} {rm : Room} {Pc : Array Value → State → Prop} {Qc Qc2 : Array Value → State → Outcome → State → Prop} {XC XC2 : String → State → State → Prop} {mc ms : Nat} {free : Addr → Prop} (hM : vx_Met l y ws rm Pc Qc XC mc ms free) (hq : ∀ a st o t, Qc a st o t → Qc2 a st o t) (hx : ∀ E st t, ¬ XC E st t) : vx_Met l y ws rm Pc Qc2 XC2 mc ms free := by
  intro p9 e9 h1 h2 h3 s9 m9 a9 b9 h4 h5 h6 h7
  obtain ⟨n, o9, k1, k2, k3, k4⟩ := hM p9 e9 h1 h2 h3 s9 m9 a9 b9 h4 h5 h6 h7
  rcases k4 with k4 | ⟨q, -, E, ce, L, k5, -⟩
  · exact ⟨n, o9, k1, k2, k3, Or.inl ⟨hq _ _ _ _ k4.1, k4.2⟩⟩
  · exact absurd k5 (hx _ _ _)
theorem j_ws8 : e_ws 268 = Cond.code yJ0_length_8abf5 cJ0_length_8abf5 1 (some .int) :: GW := by
  unfold e_ws
  rw [if_pos (by decide)]
  rfl
theorem j_ws9 : e_ws 269 = Cond.code yJ0_charAt_5068e cJ0_charAt_5068e 2 (some .char) :: GW := by
  unfold e_ws
  rw [if_pos (by decide)]
  rfl
theorem j_hps {l : Launch} {G : GT} {B : eB} (hG : e_GOK G B) : ∀ d y as h o, 268 ≤ y → e_pstr y as h = some o → e_Met l G (d + 1) y as h o ∧ o.2.2 = h := by
  intro d y as h o hy he
  unfold e_pstr at he
  split at he
  · rename_i r
    cases hg : (Nat.beq y 268 && Nat.ble 4097 r && Nat.ble r 4132) with
    | false => rw [hg] at he; cases he
    | true =>
      rw [hg] at he
      cases he
      simp only [Bool.and_eq_true] at hg
      have ey := Nat.eq_of_beq_eq_true hg.1.1
      have h1 := Nat.le_of_ble_eq_true hg.1.2
      have h2 := Nat.le_of_ble_eq_true hg.2
      subst ey
      obtain ⟨i, rfl⟩ : ∃ i, r = 4097 + i := ⟨r - 4097, by omega⟩
      have hi : i < 36 := by omega
      refine ⟨?_, rfl⟩
      unfold e_Met
      show vx_Met l yJ0_length_8abf5 (e_ws 268) (e_rm (d + 1) (e_cn h - e_cn h) (e_sl h - e_sl h)) (j_Pc G h [.ref (gad G (4097 + i))]) (e_Qc G (1, .inl (lenS.getD (4097 + i - 4097) 0), h)) (e_Xc G (1, .inl (lenS.getD (4097 + i - 4097) 0), h)) (e_cn h - e_cn h) (e_sl h - e_sl h) (gF G)
      rw [Nat.sub_self, Nat.sub_self, show 4097 + i - 4097 = i by omega, j_ws8]
      refine j_mono (j_len (d := d) hG hi) (fun a st oc t q => ⟨Or.inr ⟨rfl, ?_⟩, q.2.1, q.2.2⟩) (fun _ _ _ q => q)
      rw [q.1]
      show _ = Outcome.returned (some (.int (giv G (lenS.getD i 0))))
      rw [hG.2.1 _ (by have := j_len40 hi; omega)]
  · rename_i r x
    cases hg : (Nat.beq y 269 && Nat.ble 4097 r && Nat.ble r 4132 && Nat.ble (x + 1) (lenS.getD (r - 4097) 0)) with
    | false => rw [hg] at he; cases he
    | true =>
      rw [hg] at he
      cases he
      simp only [Bool.and_eq_true] at hg
      have ey := Nat.eq_of_beq_eq_true hg.1.1.1
      have h1 := Nat.le_of_ble_eq_true hg.1.1.2
      have h2 := Nat.le_of_ble_eq_true hg.1.2
      have h3 := Nat.le_of_ble_eq_true hg.2
      subst ey
      obtain ⟨i, rfl⟩ : ∃ i, r = 4097 + i := ⟨r - 4097, by omega⟩
      have hi : i < 36 := by omega
      rw [show 4097 + i - 4097 = i by omega] at h3
      have h40 := j_len40 hi
      refine ⟨?_, rfl⟩
      unfold e_Met
      show vx_Met l yJ0_charAt_5068e (e_ws 269) (e_rm (d + 1) (e_cn h - e_cn h) (e_sl h - e_sl h)) (j_Pc G h [.ref (gad G (4097 + i)), .int (giv G x)]) (e_Qc G (1, .inl ((bytN.getD (4097 + i - 4097) []).getD x 0), h)) (e_Xc G (1, .inl ((bytN.getD (4097 + i - 4097) []).getD x 0), h)) (e_cn h - e_cn h) (e_sl h - e_sl h) (gF G)
      rw [Nat.sub_self, Nat.sub_self, show 4097 + i - 4097 = i by omega, j_ws9, hG.2.1 x (by omega)]
      refine j_mono (j_cha (d := d) hG hi h3) (fun a st oc t q => ⟨Or.inr ⟨rfl, ?_⟩, q.2.1, q.2.2⟩) (fun _ _ _ q => q)
      rw [q.1]
      show _ = Outcome.returned (some (.int (giv G ((bytN.getD i []).getD x 0))))
      rw [hG.2.1 _ (by have := (j_chr hi h3).2; omega)]
  · cases he
