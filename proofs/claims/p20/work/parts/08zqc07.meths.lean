/-! ===== written by program (wip/layer4) ===== -/
def fm_m7157_6v3 : Nat := 3941070043873280
/-- IslandHall$Parser.conjunction -/
theorem m7157_6v3 {B : eB} (d : Nat) (M0 : Mm) (p1 : Int) (x9_1 : Int) (x9_3 : Int) (x9_2 : Int) (x6_4 : Int) (x6_5 : Int) (x6_3 : Int) (T : Int → Int) (c0 : Cg) (hP0 : Pw M0) (l1 : 3 ≤ p1) (u1 : p1 ≤ 3) (ex9_1 : M0 9 1 = x9_1) (lx9_1 : 0 ≤ x9_1) (ux9_1 : x9_1 ≤ 500) (ex9_3 : M0 9 3 = x9_3) (lx9_3 : 0 ≤ x9_3) (ux9_3 : x9_3 ≤ 500) (ex9_2 : M0 9 2 = x9_2) (lx9_2 : 0 ≤ x9_2) (ux9_2 : x9_2 ≤ 500) (ex6_4 : M0 6 4 = x6_4) (lx6_4 : 0 ≤ x6_4) (ux6_4 : x6_4 ≤ 6) (ex6_5 : M0 6 5 = x6_5) (lx6_5 : (-1) ≤ x6_5) (ux6_5 : x6_5 ≤ 500) (ex6_3 : M0 6 3 = x6_3) (lx6_3 : (-1) ≤ x6_3) (ux6_3 : x6_3 ≤ 7) (rp0 : 0 ≤ x9_1 + (-1) * x9_2) (rp1 : 0 ≤ x9_2 + (-1) * x9_3) (rp2 : 0 ≤ x9_1 + (-1) * x9_3) (xp0 : Rch T x9_1 x6_3 c0 (1, p1 + 1, x9_3, 0)) (pp_TX : TXP T M0) (pp_TC : TCP T M0) : Ct B (d + 21) 157 [R 6, I p1] M0 (qI fun z M => Pw M ∧ Fr fm_m7157_6v3 M0 M ∧ 0 ≤ z ∧ z ≤ 1 ∧ 0 ≤ M 9 3 + (-1) * x9_3 ∧ 0 ≤ x9_1 + (-1) * (M 9 3) ∧ 0 ≤ x9_1 + (-1) * (M 9 2) ∧ 0 ≤ M 9 2 + (-1) * (M 9 3) ∧ 0 ≤ M 6 4 ∧ 0 ≤ M 6 5 + 1 ∧ (z = 1 → 0 ≤ M 6 4 + (-1) * x6_4) ∧ (z = 1 → 0 ≤ (-1) * (M 6 4) + x6_4) ∧ (z = 1 → 0 ≤ M 6 5 + (-1) * x6_5) ∧ (z = 1 → 0 ≤ (-1) * (M 6 5) + x6_5) ∧ ((z = 1 ∧ Rch T x9_1 x6_3 c0 (2, p1 + 1, M 9 3, 0) ∧ kw T x9_1 (M 9 3) ≠ 12) ∨ (z = 0 ∧ Rch T x9_1 x6_3 c0 (3, 0, M 6 5, M 6 4))) ∧ (TXP T M) ∧ (TCP T M)) := by
  refine ct_of (d := d + 20) (k := 1) (L := [some (R 6), some (I p1), none]) rfl rfl rfl ?_
  have hF0 := Fr.rf fm_m7157_6v3 M0
  generalize hQ : (qI fun z M => Pw M ∧ Fr fm_m7157_6v3 M0 M ∧ 0 ≤ z ∧ z ≤ 1 ∧ 0 ≤ M 9 3 + (-1) * x9_3 ∧ 0 ≤ x9_1 + (-1) * (M 9 3) ∧ 0 ≤ x9_1 + (-1) * (M 9 2) ∧ 0 ≤ M 9 2 + (-1) * (M 9 3) ∧ 0 ≤ M 6 4 ∧ 0 ≤ M 6 5 + 1 ∧ (z = 1 → 0 ≤ M 6 4 + (-1) * x6_4) ∧ (z = 1 → 0 ≤ (-1) * (M 6 4) + x6_4) ∧ (z = 1 → 0 ≤ M 6 5 + (-1) * x6_5) ∧ (z = 1 → 0 ≤ (-1) * (M 6 5) + x6_5) ∧ ((z = 1 ∧ Rch T x9_1 x6_3 c0 (2, p1 + 1, M 9 3, 0) ∧ kw T x9_1 (M 9 3) ≠ 12) ∨ (z = 0 ∧ Rch T x9_1 x6_3 c0 (3, 0, M 6 5, M 6 4))) ∧ (TXP T M) ∧ (TCP T M)) = Q
  refine wk_al0 r157_0 (wk_il1 r157_1 (wk_cv2 r157_2 kc_6_166 rfl (m7166_6v3 _ M0 p1 x9_1 x9_3 x9_2 x6_4 x6_5 x6_3 T c0 hP0 (by first | with_reducible assumption | omega) (by first | with_reducible assumption | omega) ex9_1 (by first | with_reducible assumption | omega) (by first | with_reducible assumption | omega) ex9_3 (by first | with_reducible assumption | omega) (by first | with_reducible assumption | omega) ex9_2 (by first | with_reducible assumption | omega) (by first | with_reducible assumption | omega) ex6_4 (by first | with_reducible assumption | omega) (by first | with_reducible assumption | omega) ex6_5 (by first | with_reducible assumption | omega) (by first | with_reducible assumption | omega) ex6_3 (by first | with_reducible assumption | omega) (by first | with_reducible assumption | omega) (by omega) (by omega) (by omega) (xp0) pp_TX pp_TC) (cqI ?_)))
  rintro v18 M1 ⟨hP2, hQ3, h19, h20, h5, h6, h7, h8, h9, h10, h11, h12, h13, h14, xh15, pr16, pr17⟩
  have hF4 : Fr fm_m7157_6v3 M0 M1 := hF0.tr hQ3 rfl
  obtain ⟨v21, e22⟩ : ∃ v, M1 9 3 = v := ⟨_, rfl⟩
  have h23 := (bf_9_3 hP2).1; rw [e22] at h23
  have h24 := (bf_9_3 hP2).2; rw [e22] at h24
  obtain ⟨v25, e26⟩ : ∃ v, M1 9 2 = v := ⟨_, rfl⟩
  have h27 := (bf_9_2 hP2).1; rw [e26] at h27
  have h28 := (bf_9_2 hP2).2; rw [e26] at h28
  obtain ⟨v29, e30⟩ : ∃ v, M1 6 4 = v := ⟨_, rfl⟩
  have h31 := (bf_6_4 hP2).1; rw [e30] at h31
  have h32 := (bf_6_4 hP2).2; rw [e30] at h32
  obtain ⟨v33, e34⟩ : ∃ v, M1 6 5 = v := ⟨_, rfl⟩
  have h35 := (bf_6_5 hP2).1; rw [e34] at h35
  have h36 := (bf_6_5 hP2).2; rw [e34] at h36
  refine wk_ifne r157_5 ⟨by omega, by omega⟩ ?_ ?_
  · intro h37
    refine wk_c1 r157_10 (wk_is2 r157_11 rfl ?_)
    have c12_1241 : ∀ (k1241 : Nat) (M1116 : Mm) (v1113 : Int) (v1119 : Int) (v1123 : Int) (v1127 : Int) (v1131 : Int), (500 - v1113).toNat = k1241 → Pw M1116 → Fr fm_m7157_6v3 M0 M1116 → M1116 9 3 = v1119 → M1116 9 2 = v1123 → M1116 6 4 = v1127 → M1116 6 5 = v1131 → M1116 9 1 = x9_1 → M1116 6 3 = x6_3 → 0 ≤ v1113 → v1113 ≤ 500 → 0 ≤ v1119 → v1119 ≤ 500 → 0 ≤ v1123 → v1123 ≤ 500 → 0 ≤ v1127 → v1127 ≤ 6 → (-1) ≤ v1131 → v1131 ≤ 500 → (TXP T M1116) → (TCP T M1116) → 0 ≤ 1 * v1119 + (-1) * x9_3 → 0 ≤ 1 * x9_1 + (-1) * v1119 → 0 ≤ 1 * x9_1 + (-1) * v1123 → 0 ≤ 1 * v1123 + (-1) * v1119 → 0 ≤ 1 * v1119 + (-1) * v1113 → 0 ≤ 1 * v1127 + (-1) * x6_4 → 0 ≤ (-1) * v1127 + 1 * x6_4 → 0 ≤ 1 * v1131 + (-1) * x6_5 → 0 ≤ (-1) * v1131 + 1 * x6_5 → 0 ≤ (-1) * v1113 + v1119 + 0 → 0 ≤ (-1) * v1113 + v1123 + 0 → 0 ≤ (-1) * v1119 + v1113 + 500 → 0 ≤ (-1) * v1119 + v1123 + 0 → 0 ≤ (-1) * v1119 + v1127 + 500 → 0 ≤ (-1) * v1119 + v1131 + 501 → 0 ≤ (-1) * v1123 + v1113 + 500 → 0 ≤ (-1) * v1123 + v1119 + 500 → 0 ≤ (-1) * v1123 + v1127 + 500 → 0 ≤ (-1) * v1123 + v1131 + 501 → 0 ≤ (-1) * v1127 + v1113 + 6 → 0 ≤ (-1) * v1127 + v1119 + 6 → 0 ≤ (-1) * v1127 + v1123 + 6 → 0 ≤ (-1) * v1127 + v1131 + 7 → 0 ≤ (-1) * v1131 + v1113 + 500 → 0 ≤ (-1) * v1131 + v1119 + 500 → 0 ≤ (-1) * v1131 + v1123 + 500 → 0 ≤ (-1) * v1131 + v1127 + 500 → (Rch T x9_1 x6_3 c0 (2, p1 + 1, v1119, 0)) → Wp B (d + 20) 157 12 [some (R 6), some (I p1), some (I v1113)] [] M1116 Q := by
      refine lp_ind ?_
      intro k1241 ih1241 M1116 v1113 v1119 v1123 v1127 v1131 hk1241 hP1117 hF1118 e1122 e1126 e1130 e1134 e1135 e1136 h1114 h1115 h1120 h1121 h1124 h1125 h1128 h1129 h1132 h1133 pr1137 pr1138 h1139 h1140 h1141 h1142 h1143 h1144 h1145 h1146 h1147 h1148 h1149 h1150 h1151 h1152 h1153 h1154 h1155 h1156 h1157 h1158 h1159 h1160 h1161 h1162 h1163 h1164 h1165 ti1166
      refine wk_il2 r157_12 (wk_c3 r157_13 ?_)
      refine wk_icge r157_16 ⟨by omega, by omega⟩ (by decide) ?_ ?_
      · intro h1167
        refine wk_c1 r157_53 ?_
        subst hQ; exact wk_zret r157_54 (by decide) (⟨rfl, _, rfl, hP1117, hF1118, by omega, by omega, by have := e1122; omega, by have := e1122; omega, by have := e1126; omega, by have := e1126; have := e1122; omega, by have := e1130; omega, by have := e1134; omega, by have := e1130; omega, by have := e1130; omega, by have := e1134; omega, by have := e1134; omega, Or.inl ⟨by omega, by rw [e1122]; exact ⟨X_k ti1166 (by omega), by have := kw_lt (T := T) (n := x9_1) (s := v1119); omega⟩⟩, pr1137, pr1138⟩)
      · intro h1168
        refine wk_al0 r157_19 (wk_c8 r157_20 (wk_cv2 r157_22 kc_6_175 rfl (m7175_6 _ M1116 4125 x9_1 v1119 v1123 T hP1117 (by decide) e1135 (by first | with_reducible assumption | omega) (by first | with_reducible assumption | omega) e1122 (by first | with_reducible assumption | omega) (by first | with_reducible assumption | omega) e1126 (by first | with_reducible assumption | omega) (by first | with_reducible assumption | omega) (by omega) (by omega) (by omega) (by first | assumption | omega | (unfold stepok; omega)) pr1137 pr1138) (cqI ?_)))
        rintro v1181 M1169 ⟨hP1170, hQ1171, h1182, h1183, h1173, h1174, h1175, h1176, h1177, xh1178, pr1179, pr1180⟩
        have hF1172 : Fr fm_m7157_6v3 M0 M1169 := hF1118.tr hQ1171 rfl
        obtain ⟨v1184, e1185⟩ : ∃ v, M1169 9 3 = v := ⟨_, rfl⟩
        have h1186 := (bf_9_3 hP1170).1; rw [e1185] at h1186
        have h1187 := (bf_9_3 hP1170).2; rw [e1185] at h1187
        obtain ⟨v1188, e1189⟩ : ∃ v, M1169 9 2 = v := ⟨_, rfl⟩
        have h1190 := (bf_9_2 hP1170).1; rw [e1189] at h1190
        have h1191 := (bf_9_2 hP1170).2; rw [e1189] at h1191
        rw [show wix 4125 = 12 from rfl] at xh1178
        refine wk_ifeq r157_25 ⟨by omega, by omega⟩ ?_ ?_
        · intro h1192
          obtain rfl : v1119 = v1184 := by omega
          obtain rfl : v1123 = v1188 := by omega
          refine wk_c1 r157_53 ?_
          subst hQ; exact wk_zret r157_54 (by decide) (⟨rfl, _, rfl, hP1170, hF1172, by omega, by omega, by have := e1185; omega, by have := e1185; omega, by have := e1189; omega, by have := e1189; have := e1185; omega, by have := ((hQ1171.at g_6_4 rfl).trans e1130); omega, by have := ((hQ1171.at g_6_5 rfl).trans e1134); omega, by have := ((hQ1171.at g_6_4 rfl).trans e1130); omega, by have := ((hQ1171.at g_6_4 rfl).trans e1130); omega, by have := ((hQ1171.at g_6_5 rfl).trans e1134); omega, by have := ((hQ1171.at g_6_5 rfl).trans e1134); omega, Or.inl ⟨by omega, by rw [e1185]; exact ⟨X_k ti1166 (by omega), by have := kw_lt (T := T) (n := x9_1) (s := v1119); omega⟩⟩, pr1179, pr1180⟩)
        · intro h1193
          have r2 : Rch T x9_1 x6_3 c0 (1, p1 + 1, v1184, 0) := X_o ti1166 (by omega) (by omega)
          refine wk_al0 r157_28 (wk_il1 r157_29 (wk_cv2 r157_30 kc_6_166 rfl (m7166_6v3 _ M1169 p1 x9_1 v1184 v1188 v1127 v1131 x6_3 T c0 hP1170 (by first | with_reducible assumption | omega) (by first | with_reducible assumption | omega) ((hQ1171.at g_9_1 rfl).trans e1135) (by first | with_reducible assumption | omega) (by first | with_reducible assumption | omega) e1185 (by first | with_reducible assumption | omega) (by first | with_reducible assumption | omega) e1189 (by first | with_reducible assumption | omega) (by first | with_reducible assumption | omega) ((hQ1171.at g_6_4 rfl).trans e1130) (by first | with_reducible assumption | omega) (by first | with_reducible assumption | omega) ((hQ1171.at g_6_5 rfl).trans e1134) (by first | with_reducible assumption | omega) (by first | with_reducible assumption | omega) ((hQ1171.at g_6_3 rfl).trans e1136) (by first | with_reducible assumption | omega) (by first | with_reducible assumption | omega) (by omega) (by omega) (by omega) (r2) pr1179 pr1180) (cqI ?_)))
          rintro v1211 M1194 ⟨hP1195, hQ1196, h1212, h1213, h1198, h1199, h1200, h1201, h1202, h1203, h1204, h1205, h1206, h1207, xh1208, pr1209, pr1210⟩
          have hF1197 : Fr fm_m7157_6v3 M0 M1194 := hF1172.tr hQ1196 rfl
          obtain ⟨v1214, e1215⟩ : ∃ v, M1194 9 3 = v := ⟨_, rfl⟩
          have h1216 := (bf_9_3 hP1195).1; rw [e1215] at h1216
          have h1217 := (bf_9_3 hP1195).2; rw [e1215] at h1217
          obtain ⟨v1218, e1219⟩ : ∃ v, M1194 9 2 = v := ⟨_, rfl⟩
          have h1220 := (bf_9_2 hP1195).1; rw [e1219] at h1220
          have h1221 := (bf_9_2 hP1195).2; rw [e1219] at h1221
          obtain ⟨v1222, e1223⟩ : ∃ v, M1194 6 4 = v := ⟨_, rfl⟩
          have h1224 := (bf_6_4 hP1195).1; rw [e1223] at h1224
          have h1225 := (bf_6_4 hP1195).2; rw [e1223] at h1225
          obtain ⟨v1226, e1227⟩ : ∃ v, M1194 6 5 = v := ⟨_, rfl⟩
          have h1228 := (bf_6_5 hP1195).1; rw [e1227] at h1228
          have h1229 := (bf_6_5 hP1195).2; rw [e1227] at h1229
          refine wk_ifeq r157_33 ⟨by omega, by omega⟩ ?_ ?_
          · intro h1230
            refine wk_c1 r157_45 ?_
            subst hQ; exact wk_zret r157_46 (by decide) (⟨rfl, _, rfl, hP1195, hF1197, by omega, by omega, by have := e1215; omega, by have := e1215; omega, by have := e1219; omega, by have := e1219; have := e1215; omega, by have := e1223; omega, by have := e1227; omega, by omega, by omega, by omega, by omega, Or.inr ⟨by omega, by rw [e1227, e1223]; exact F_k (or_r xh1208 (by omega)) (by omega) (by omega)⟩, pr1209, pr1210⟩)
          · intro h1231
            refine wk_al0 r157_36 (wk_c1 r157_37 (wk_c1 r157_38 (wk_cv3 r157_39 kc_6_172 rfl (m7172_6 _ M1194 2 0 hP1195 (by decide) (by decide) (by decide) (by decide) (by first | assumption | omega | (unfold stepok; omega))) (cqI ?_))))
            rintro v1236 M1232 ⟨hP1233, hQ1234, h1237, h1238⟩
            have hF1235 : Fr fm_m7157_6v3 M0 M1232 := hF1197.tr hQ1234 rfl
            refine wk_ifne r157_42 ⟨by omega, by omega⟩ ?_ ?_
            · intro h1239
              refine wk_inc2 r157_47 rfl (wk_goto r157_50 ?_)
              exact wp_fg (le_s (le_s (le_s le_0))) (ih1241 (500 - (v1113 + 1)).toNat (by omega) M1232 (v1113 + 1) v1214 v1218 v1222 v1226 rfl hP1233 hF1235 ((hQ1234.at g_9_3 rfl).trans e1215) ((hQ1234.at g_9_2 rfl).trans e1219) ((hQ1234.at g_6_4 rfl).trans e1223) ((hQ1234.at g_6_5 rfl).trans e1227) ((hQ1234.at g_9_1 rfl).trans ((hQ1196.at g_9_1 rfl).trans ((hQ1171.at g_9_1 rfl).trans e1135))) ((hQ1234.at g_6_3 rfl).trans ((hQ1196.at g_6_3 rfl).trans ((hQ1171.at g_6_3 rfl).trans e1136))) (by first | with_reducible assumption | omega) (by first | with_reducible assumption | omega) (by first | with_reducible assumption | omega) (by first | with_reducible assumption | omega) (by first | with_reducible assumption | omega) (by first | with_reducible assumption | omega) (by first | with_reducible assumption | omega) (by first | with_reducible assumption | omega) (by first | with_reducible assumption | omega) (by first | with_reducible assumption | omega) (TXP_sm (Sm.fr hQ1234 rfl) pr1209) (TCP_sm (Sm.fr hQ1234 rfl) pr1210) (by first | with_reducible assumption | omega) (by first | with_reducible assumption | omega) (by first | with_reducible assumption | omega) (by first | with_reducible assumption | omega) (by first | with_reducible assumption | omega) (by first | with_reducible assumption | omega) (by first | with_reducible assumption | omega) (by first | with_reducible assumption | omega) (by first | with_reducible assumption | omega) (by first | with_reducible assumption | omega) (by first | with_reducible assumption | omega) (by first | with_reducible assumption | omega) (by first | with_reducible assumption | omega) (by first | with_reducible assumption | omega) (by first | with_reducible assumption | omega) (by first | with_reducible assumption | omega) (by first | with_reducible assumption | omega) (by first | with_reducible assumption | omega) (by first | with_reducible assumption | omega) (by first | with_reducible assumption | omega) (by first | with_reducible assumption | omega) (by first | with_reducible assumption | omega) (by first | with_reducible assumption | omega) (by first | with_reducible assumption | omega) (by first | with_reducible assumption | omega) (by first | with_reducible assumption | omega) (by first | with_reducible assumption | omega) (X_k (or_l xh1208 (by omega)) (by omega)))
            · intro h1240
              exfalso
              omega
    exact wp_fg (le_s (le_s (le_s le_0))) (c12_1241 _ M1 0 v21 v25 v29 v33 rfl hP2 hF4 e22 e26 e30 e34 ((hQ3.at g_9_1 rfl).trans ex9_1) ((hQ3.at g_6_3 rfl).trans ex6_3) (by first | with_reducible assumption | omega) (by first | with_reducible assumption | omega) (by first | with_reducible assumption | omega) (by first | with_reducible assumption | omega) (by first | with_reducible assumption | omega) (by first | with_reducible assumption | omega) (by first | with_reducible assumption | omega) (by first | with_reducible assumption | omega) (by first | with_reducible assumption | omega) (by first | with_reducible assumption | omega) pr16 pr17 (by first | with_reducible assumption | omega) (by first | with_reducible assumption | omega) (by first | with_reducible assumption | omega) (by first | with_reducible assumption | omega) (by first | with_reducible assumption | omega) (by first | with_reducible assumption | omega) (by first | with_reducible assumption | omega) (by first | with_reducible assumption | omega) (by first | with_reducible assumption | omega) (by first | with_reducible assumption | omega) (by first | with_reducible assumption | omega) (by first | with_reducible assumption | omega) (by first | with_reducible assumption | omega) (by first | with_reducible assumption | omega) (by first | with_reducible assumption | omega) (by first | with_reducible assumption | omega) (by first | with_reducible assumption | omega) (by first | with_reducible assumption | omega) (by first | with_reducible assumption | omega) (by first | with_reducible assumption | omega) (by first | with_reducible assumption | omega) (by first | with_reducible assumption | omega) (by first | with_reducible assumption | omega) (by first | with_reducible assumption | omega) (by first | with_reducible assumption | omega) (by first | with_reducible assumption | omega) (by first | with_reducible assumption | omega) (X_k (or_l xh15 (by omega)) (by omega)))
  · intro h1242
    refine wk_c1 r157_8 ?_
    subst hQ; exact wk_zret r157_9 (by decide) (⟨rfl, _, rfl, hP2, hF4, by omega, by omega, by have := e22; omega, by have := e22; omega, by have := e26; omega, by have := e26; have := e22; omega, by have := e30; omega, by have := e34; omega, by omega, by omega, by omega, by omega, Or.inr ⟨by omega, by rw [e34, e30]; exact F_k (or_r xh15 (by omega)) (by omega) (by omega)⟩, pr16, pr17⟩)
def fm_m7158_6v3 : Nat := 3941070043873280
/-- IslandHall$Parser.expr -/
theorem m7158_6v3 {B : eB} (d : Nat) (M0 : Mm) (p1 : Int) (x9_1 : Int) (x9_3 : Int) (x9_2 : Int) (x6_4 : Int) (x6_5 : Int) (x6_3 : Int) (T : Int → Int) (c0 : Cg) (hP0 : Pw M0) (l1 : 3 ≤ p1) (u1 : p1 ≤ 3) (ex9_1 : M0 9 1 = x9_1) (lx9_1 : 0 ≤ x9_1) (ux9_1 : x9_1 ≤ 500) (ex9_3 : M0 9 3 = x9_3) (lx9_3 : 0 ≤ x9_3) (ux9_3 : x9_3 ≤ 500) (ex9_2 : M0 9 2 = x9_2) (lx9_2 : 0 ≤ x9_2) (ux9_2 : x9_2 ≤ 500) (ex6_4 : M0 6 4 = x6_4) (lx6_4 : 0 ≤ x6_4) (ux6_4 : x6_4 ≤ 6) (ex6_5 : M0 6 5 = x6_5) (lx6_5 : (-1) ≤ x6_5) (ux6_5 : x6_5 ≤ 500) (ex6_3 : M0 6 3 = x6_3) (lx6_3 : (-1) ≤ x6_3) (ux6_3 : x6_3 ≤ 7) (rp0 : 0 ≤ x9_1 + (-1) * x9_2) (rp1 : 0 ≤ x9_2 + (-1) * x9_3) (rp2 : 0 ≤ x9_1 + (-1) * x9_3) (xp0 : Rch T x9_1 x6_3 c0 (0, p1, x9_3, 0)) (pp_TX : TXP T M0) (pp_TC : TCP T M0) : Ct B (d + 22) 158 [R 6, I p1] M0 (qI fun z M => Pw M ∧ Fr fm_m7158_6v3 M0 M ∧ 0 ≤ z ∧ z ≤ 1 ∧ 0 ≤ M 9 3 + (-1) * x9_3 ∧ 0 ≤ x9_1 + (-1) * (M 9 3) ∧ 0 ≤ x9_1 + (-1) * (M 9 2) ∧ 0 ≤ M 9 2 + (-1) * (M 9 3) ∧ 0 ≤ M 6 4 ∧ 0 ≤ M 6 5 + 1 ∧ (z = 1 → 0 ≤ M 6 4 + (-1) * x6_4) ∧ (z = 1 → 0 ≤ (-1) * (M 6 4) + x6_4) ∧ (z = 1 → 0 ≤ M 6 5 + (-1) * x6_5) ∧ (z = 1 → 0 ≤ (-1) * (M 6 5) + x6_5) ∧ ((z = 1 ∧ Rch T x9_1 x6_3 c0 (2, p1 + 1, M 9 3, 0) ∧ kw T x9_1 (M 9 3) ≠ 12 ∧ kw T x9_1 (M 9 3) ≠ 13) ∨ (z = 0 ∧ Rch T x9_1 x6_3 c0 (3, 0, M 6 5, M 6 4))) ∧ (TXP T M) ∧ (TCP T M)) := by
  refine ct_of (d := d + 21) (k := 1) (L := [some (R 6), some (I p1), none]) rfl rfl rfl ?_
  have hF0 := Fr.rf fm_m7158_6v3 M0
  generalize hQ : (qI fun z M => Pw M ∧ Fr fm_m7158_6v3 M0 M ∧ 0 ≤ z ∧ z ≤ 1 ∧ 0 ≤ M 9 3 + (-1) * x9_3 ∧ 0 ≤ x9_1 + (-1) * (M 9 3) ∧ 0 ≤ x9_1 + (-1) * (M 9 2) ∧ 0 ≤ M 9 2 + (-1) * (M 9 3) ∧ 0 ≤ M 6 4 ∧ 0 ≤ M 6 5 + 1 ∧ (z = 1 → 0 ≤ M 6 4 + (-1) * x6_4) ∧ (z = 1 → 0 ≤ (-1) * (M 6 4) + x6_4) ∧ (z = 1 → 0 ≤ M 6 5 + (-1) * x6_5) ∧ (z = 1 → 0 ≤ (-1) * (M 6 5) + x6_5) ∧ ((z = 1 ∧ Rch T x9_1 x6_3 c0 (2, p1 + 1, M 9 3, 0) ∧ kw T x9_1 (M 9 3) ≠ 12 ∧ kw T x9_1 (M 9 3) ≠ 13) ∨ (z = 0 ∧ Rch T x9_1 x6_3 c0 (3, 0, M 6 5, M 6 4))) ∧ (TXP T M) ∧ (TCP T M)) = Q
  refine wk_al0 r158_0 (wk_cv1 r158_1 kc_6_155 rfl (m7155_6 _ M0 x9_1 x9_3 T hP0 ex9_1 (by first | with_reducible assumption | omega) (by first | with_reducible assumption | omega) ex9_3 (by first | with_reducible assumption | omega) (by first | with_reducible assumption | omega) pp_TX pp_TC) (cqI ?_))
  rintro v6 M1 ⟨hP2, hQ3, h7, h8, xh5⟩
  obtain rfl := Fr.same hQ3
  refine wk_ifne r158_4 ⟨by omega, by omega⟩ ?_ ?_
  · intro h9
    refine wk_il1 r158_13 (wk_c2 r158_14 ?_)
    refine wk_iclt r158_16 ⟨by omega, by omega⟩ (by decide) ?_ ?_
    · intro h10
      have r2 : Rch T x9_1 x6_3 c0 (1, p1 + 1, x9_3, 0) := E_b xp0 (by omega) (by omega) (by omega)
      refine wk_al0 r158_25 (wk_il1 r158_26 (wk_cv2 r158_27 kc_6_157 rfl (m7157_6v3 _ M0 p1 x9_1 x9_3 x9_2 x6_4 x6_5 x6_3 T c0 hP0 (by first | with_reducible assumption | omega) (by first | with_reducible assumption | omega) ex9_1 (by first | with_reducible assumption | omega) (by first | with_reducible assumption | omega) ex9_3 (by first | with_reducible assumption | omega) (by first | with_reducible assumption | omega) ex9_2 (by first | with_reducible assumption | omega) (by first | with_reducible assumption | omega) ex6_4 (by first | with_reducible assumption | omega) (by first | with_reducible assumption | omega) ex6_5 (by first | with_reducible assumption | omega) (by first | with_reducible assumption | omega) ex6_3 (by first | with_reducible assumption | omega) (by first | with_reducible assumption | omega) (by omega) (by omega) (by omega) (r2) pp_TX pp_TC) (cqI ?_)))
      rintro v28 M11 ⟨hP12, hQ13, h29, h30, h15, h16, h17, h18, h19, h20, h21, h22, h23, h24, xh25, pr26, pr27⟩
      have hF14 : Fr fm_m7158_6v3 M0 M11 := hF0.tr hQ13 rfl
      obtain ⟨v31, e32⟩ : ∃ v, M11 9 3 = v := ⟨_, rfl⟩
      have h33 := (bf_9_3 hP12).1; rw [e32] at h33
      have h34 := (bf_9_3 hP12).2; rw [e32] at h34
      obtain ⟨v35, e36⟩ : ∃ v, M11 9 2 = v := ⟨_, rfl⟩
      have h37 := (bf_9_2 hP12).1; rw [e36] at h37
      have h38 := (bf_9_2 hP12).2; rw [e36] at h38
      obtain ⟨v39, e40⟩ : ∃ v, M11 6 4 = v := ⟨_, rfl⟩
      have h41 := (bf_6_4 hP12).1; rw [e40] at h41
      have h42 := (bf_6_4 hP12).2; rw [e40] at h42
      obtain ⟨v43, e44⟩ : ∃ v, M11 6 5 = v := ⟨_, rfl⟩
      have h45 := (bf_6_5 hP12).1; rw [e44] at h45
      have h46 := (bf_6_5 hP12).2; rw [e44] at h46
      refine wk_ifne r158_30 ⟨by omega, by omega⟩ ?_ ?_
      · intro h47
        refine wk_c1 r158_35 (wk_is2 r158_36 rfl ?_)
        have c37_1251 : ∀ (k1251 : Nat) (M1126 : Mm) (v1123 : Int) (v1129 : Int) (v1133 : Int) (v1137 : Int) (v1141 : Int), (500 - v1123).toNat = k1251 → Pw M1126 → Fr fm_m7158_6v3 M0 M1126 → M1126 9 3 = v1129 → M1126 9 2 = v1133 → M1126 6 4 = v1137 → M1126 6 5 = v1141 → M1126 9 1 = x9_1 → M1126 6 3 = x6_3 → 0 ≤ v1123 → v1123 ≤ 500 → 0 ≤ v1129 → v1129 ≤ 500 → 0 ≤ v1133 → v1133 ≤ 500 → 0 ≤ v1137 → v1137 ≤ 6 → (-1) ≤ v1141 → v1141 ≤ 500 → (TXP T M1126) → (TCP T M1126) → 0 ≤ 1 * v1129 + (-1) * x9_3 → 0 ≤ 1 * x9_1 + (-1) * v1129 → 0 ≤ 1 * x9_1 + (-1) * v1133 → 0 ≤ 1 * v1133 + (-1) * v1129 → 0 ≤ 1 * v1129 + (-1) * v1123 → 0 ≤ 1 * v1137 + (-1) * x6_4 → 0 ≤ (-1) * v1137 + 1 * x6_4 → 0 ≤ 1 * v1141 + (-1) * x6_5 → 0 ≤ (-1) * v1141 + 1 * x6_5 → 0 ≤ (-1) * v1123 + v1129 + 0 → 0 ≤ (-1) * v1123 + v1133 + 0 → 0 ≤ (-1) * v1129 + v1123 + 500 → 0 ≤ (-1) * v1129 + v1133 + 0 → 0 ≤ (-1) * v1129 + v1137 + 500 → 0 ≤ (-1) * v1129 + v1141 + 501 → 0 ≤ (-1) * v1133 + v1123 + 500 → 0 ≤ (-1) * v1133 + v1129 + 500 → 0 ≤ (-1) * v1133 + v1137 + 500 → 0 ≤ (-1) * v1133 + v1141 + 501 → 0 ≤ (-1) * v1137 + v1123 + 6 → 0 ≤ (-1) * v1137 + v1129 + 6 → 0 ≤ (-1) * v1137 + v1133 + 6 → 0 ≤ (-1) * v1137 + v1141 + 7 → 0 ≤ (-1) * v1141 + v1123 + 500 → 0 ≤ (-1) * v1141 + v1129 + 500 → 0 ≤ (-1) * v1141 + v1133 + 500 → 0 ≤ (-1) * v1141 + v1137 + 500 → (Rch T x9_1 x6_3 c0 (2, p1 + 1, v1129, 0) ∧ kw T x9_1 v1129 ≠ 12) → Wp B (d + 21) 158 37 [some (R 6), some (I p1), some (I v1123)] [] M1126 Q := by
          refine lp_ind ?_
          intro k1251 ih1251 M1126 v1123 v1129 v1133 v1137 v1141 hk1251 hP1127 hF1128 e1132 e1136 e1140 e1144 e1145 e1146 h1124 h1125 h1130 h1131 h1134 h1135 h1138 h1139 h1142 h1143 pr1147 pr1148 h1149 h1150 h1151 h1152 h1153 h1154 h1155 h1156 h1157 h1158 h1159 h1160 h1161 h1162 h1163 h1164 h1165 h1166 h1167 h1168 h1169 h1170 h1171 h1172 h1173 h1174 h1175 ti1176
          refine wk_il2 r158_37 (wk_c3 r158_38 ?_)
          refine wk_icge r158_41 ⟨by omega, by omega⟩ (by decide) ?_ ?_
          · intro h1177
            refine wk_c1 r158_78 ?_
            subst hQ; exact wk_zret r158_79 (by decide) (⟨rfl, _, rfl, hP1127, hF1128, by omega, by omega, by have := e1132; omega, by have := e1132; omega, by have := e1136; omega, by have := e1136; have := e1132; omega, by have := e1140; omega, by have := e1144; omega, by have := e1140; omega, by have := e1140; omega, by have := e1144; omega, by have := e1144; omega, Or.inl ⟨by omega, by rw [e1132]; exact ⟨X_k (ti1176).1 (by omega), by have := kw_lt (T := T) (n := x9_1) (s := v1129); have := (ti1176).2; omega⟩⟩, pr1147, pr1148⟩)
          · intro h1178
            refine wk_al0 r158_44 (wk_c8 r158_45 (wk_cv2 r158_47 kc_6_175 rfl (m7175_6 _ M1126 4126 x9_1 v1129 v1133 T hP1127 (by decide) e1145 (by first | with_reducible assumption | omega) (by first | with_reducible assumption | omega) e1132 (by first | with_reducible assumption | omega) (by first | with_reducible assumption | omega) e1136 (by first | with_reducible assumption | omega) (by first | with_reducible assumption | omega) (by omega) (by omega) (by omega) (by first | assumption | omega | (unfold stepok; omega)) pr1147 pr1148) (cqI ?_)))
            rintro v1191 M1179 ⟨hP1180, hQ1181, h1192, h1193, h1183, h1184, h1185, h1186, h1187, xh1188, pr1189, pr1190⟩
            have hF1182 : Fr fm_m7158_6v3 M0 M1179 := hF1128.tr hQ1181 rfl
            obtain ⟨v1194, e1195⟩ : ∃ v, M1179 9 3 = v := ⟨_, rfl⟩
            have h1196 := (bf_9_3 hP1180).1; rw [e1195] at h1196
            have h1197 := (bf_9_3 hP1180).2; rw [e1195] at h1197
            obtain ⟨v1198, e1199⟩ : ∃ v, M1179 9 2 = v := ⟨_, rfl⟩
            have h1200 := (bf_9_2 hP1180).1; rw [e1199] at h1200
            have h1201 := (bf_9_2 hP1180).2; rw [e1199] at h1201
            rw [show wix 4126 = 13 from rfl] at xh1188
            refine wk_ifeq r158_50 ⟨by omega, by omega⟩ ?_ ?_
            · intro h1202
              obtain rfl : v1129 = v1194 := by omega
              obtain rfl : v1133 = v1198 := by omega
              refine wk_c1 r158_78 ?_
              subst hQ; exact wk_zret r158_79 (by decide) (⟨rfl, _, rfl, hP1180, hF1182, by omega, by omega, by have := e1195; omega, by have := e1195; omega, by have := e1199; omega, by have := e1199; have := e1195; omega, by have := ((hQ1181.at g_6_4 rfl).trans e1140); omega, by have := ((hQ1181.at g_6_5 rfl).trans e1144); omega, by have := ((hQ1181.at g_6_4 rfl).trans e1140); omega, by have := ((hQ1181.at g_6_4 rfl).trans e1140); omega, by have := ((hQ1181.at g_6_5 rfl).trans e1144); omega, by have := ((hQ1181.at g_6_5 rfl).trans e1144); omega, Or.inl ⟨by omega, by rw [e1195]; exact ⟨X_k (ti1176).1 (by omega), by have := kw_lt (T := T) (n := x9_1) (s := v1129); have := (ti1176).2; omega⟩⟩, pr1189, pr1190⟩)
            · intro h1203
              have r2 : Rch T x9_1 x6_3 c0 (1, p1 + 1, v1194, 0) := X_o (ti1176).1 (by omega) (by omega)
              refine wk_al0 r158_53 (wk_il1 r158_54 (wk_cv2 r158_55 kc_6_157 rfl (m7157_6v3 _ M1179 p1 x9_1 v1194 v1198 v1137 v1141 x6_3 T c0 hP1180 (by first | with_reducible assumption | omega) (by first | with_reducible assumption | omega) ((hQ1181.at g_9_1 rfl).trans e1145) (by first | with_reducible assumption | omega) (by first | with_reducible assumption | omega) e1195 (by first | with_reducible assumption | omega) (by first | with_reducible assumption | omega) e1199 (by first | with_reducible assumption | omega) (by first | with_reducible assumption | omega) ((hQ1181.at g_6_4 rfl).trans e1140) (by first | with_reducible assumption | omega) (by first | with_reducible assumption | omega) ((hQ1181.at g_6_5 rfl).trans e1144) (by first | with_reducible assumption | omega) (by first | with_reducible assumption | omega) ((hQ1181.at g_6_3 rfl).trans e1146) (by first | with_reducible assumption | omega) (by first | with_reducible assumption | omega) (by omega) (by omega) (by omega) (r2) pr1189 pr1190) (cqI ?_)))
              rintro v1221 M1204 ⟨hP1205, hQ1206, h1222, h1223, h1208, h1209, h1210, h1211, h1212, h1213, h1214, h1215, h1216, h1217, xh1218, pr1219, pr1220⟩
              have hF1207 : Fr fm_m7158_6v3 M0 M1204 := hF1182.tr hQ1206 rfl
              obtain ⟨v1224, e1225⟩ : ∃ v, M1204 9 3 = v := ⟨_, rfl⟩
              have h1226 := (bf_9_3 hP1205).1; rw [e1225] at h1226
              have h1227 := (bf_9_3 hP1205).2; rw [e1225] at h1227
              obtain ⟨v1228, e1229⟩ : ∃ v, M1204 9 2 = v := ⟨_, rfl⟩
              have h1230 := (bf_9_2 hP1205).1; rw [e1229] at h1230
              have h1231 := (bf_9_2 hP1205).2; rw [e1229] at h1231
              obtain ⟨v1232, e1233⟩ : ∃ v, M1204 6 4 = v := ⟨_, rfl⟩
              have h1234 := (bf_6_4 hP1205).1; rw [e1233] at h1234
              have h1235 := (bf_6_4 hP1205).2; rw [e1233] at h1235
              obtain ⟨v1236, e1237⟩ : ∃ v, M1204 6 5 = v := ⟨_, rfl⟩
              have h1238 := (bf_6_5 hP1205).1; rw [e1237] at h1238
              have h1239 := (bf_6_5 hP1205).2; rw [e1237] at h1239
              refine wk_ifeq r158_58 ⟨by omega, by omega⟩ ?_ ?_
              · intro h1240
                refine wk_c1 r158_70 ?_
                subst hQ; exact wk_zret r158_71 (by decide) (⟨rfl, _, rfl, hP1205, hF1207, by omega, by omega, by have := e1225; omega, by have := e1225; omega, by have := e1229; omega, by have := e1229; have := e1225; omega, by have := e1233; omega, by have := e1237; omega, by omega, by omega, by omega, by omega, Or.inr ⟨by omega, by rw [e1237, e1233]; exact F_k (or_r xh1218 (by omega)) (by omega) (by omega)⟩, pr1219, pr1220⟩)
              · intro h1241
                refine wk_al0 r158_61 (wk_c1 r158_62 (wk_c1 r158_63 (wk_cv3 r158_64 kc_6_172 rfl (m7172_6 _ M1204 3 0 hP1205 (by decide) (by decide) (by decide) (by decide) (by first | assumption | omega | (unfold stepok; omega))) (cqI ?_))))
                rintro v1246 M1242 ⟨hP1243, hQ1244, h1247, h1248⟩
                have hF1245 : Fr fm_m7158_6v3 M0 M1242 := hF1207.tr hQ1244 rfl
                refine wk_ifne r158_67 ⟨by omega, by omega⟩ ?_ ?_
                · intro h1249
                  refine wk_inc2 r158_72 rfl (wk_goto r158_75 ?_)
                  exact wp_fg (le_s (le_s (le_s le_0))) (ih1251 (500 - (v1123 + 1)).toNat (by omega) M1242 (v1123 + 1) v1224 v1228 v1232 v1236 rfl hP1243 hF1245 ((hQ1244.at g_9_3 rfl).trans e1225) ((hQ1244.at g_9_2 rfl).trans e1229) ((hQ1244.at g_6_4 rfl).trans e1233) ((hQ1244.at g_6_5 rfl).trans e1237) ((hQ1244.at g_9_1 rfl).trans ((hQ1206.at g_9_1 rfl).trans ((hQ1181.at g_9_1 rfl).trans e1145))) ((hQ1244.at g_6_3 rfl).trans ((hQ1206.at g_6_3 rfl).trans ((hQ1181.at g_6_3 rfl).trans e1146))) (by first | with_reducible assumption | omega) (by first | with_reducible assumption | omega) (by first | with_reducible assumption | omega) (by first | with_reducible assumption | omega) (by first | with_reducible assumption | omega) (by first | with_reducible assumption | omega) (by first | with_reducible assumption | omega) (by first | with_reducible assumption | omega) (by first | with_reducible assumption | omega) (by first | with_reducible assumption | omega) (TXP_sm (Sm.fr hQ1244 rfl) pr1219) (TCP_sm (Sm.fr hQ1244 rfl) pr1220) (by first | with_reducible assumption | omega) (by first | with_reducible assumption | omega) (by first | with_reducible assumption | omega) (by first | with_reducible assumption | omega) (by first | with_reducible assumption | omega) (by first | with_reducible assumption | omega) (by first | with_reducible assumption | omega) (by first | with_reducible assumption | omega) (by first | with_reducible assumption | omega) (by first | with_reducible assumption | omega) (by first | with_reducible assumption | omega) (by first | with_reducible assumption | omega) (by first | with_reducible assumption | omega) (by first | with_reducible assumption | omega) (by first | with_reducible assumption | omega) (by first | with_reducible assumption | omega) (by first | with_reducible assumption | omega) (by first | with_reducible assumption | omega) (by first | with_reducible assumption | omega) (by first | with_reducible assumption | omega) (by first | with_reducible assumption | omega) (by first | with_reducible assumption | omega) (by first | with_reducible assumption | omega) (by first | with_reducible assumption | omega) (by first | with_reducible assumption | omega) (by first | with_reducible assumption | omega) (by first | with_reducible assumption | omega) (⟨X_k (or_l xh1218 (by omega)).1 (by omega), by have q8 := (or_l xh1218 (by omega)).2; rw [e1225] at q8; exact q8⟩))
                · intro h1250
                  exfalso
                  omega
        exact wp_fg (le_s (le_s (le_s le_0))) (c37_1251 _ M11 0 v31 v35 v39 v43 rfl hP12 hF14 e32 e36 e40 e44 ((hQ13.at g_9_1 rfl).trans ex9_1) ((hQ13.at g_6_3 rfl).trans ex6_3) (by first | with_reducible assumption | omega) (by first | with_reducible assumption | omega) (by first | with_reducible assumption | omega) (by first | with_reducible assumption | omega) (by first | with_reducible assumption | omega) (by first | with_reducible assumption | omega) (by first | with_reducible assumption | omega) (by first | with_reducible assumption | omega) (by first | with_reducible assumption | omega) (by first | with_reducible assumption | omega) pr26 pr27 (by first | with_reducible assumption | omega) (by first | with_reducible assumption | omega) (by first | with_reducible assumption | omega) (by first | with_reducible assumption | omega) (by first | with_reducible assumption | omega) (by first | with_reducible assumption | omega) (by first | with_reducible assumption | omega) (by first | with_reducible assumption | omega) (by first | with_reducible assumption | omega) (by first | with_reducible assumption | omega) (by first | with_reducible assumption | omega) (by first | with_reducible assumption | omega) (by first | with_reducible assumption | omega) (by first | with_reducible assumption | omega) (by first | with_reducible assumption | omega) (by first | with_reducible assumption | omega) (by first | with_reducible assumption | omega) (by first | with_reducible assumption | omega) (by first | with_reducible assumption | omega) (by first | with_reducible assumption | omega) (by first | with_reducible assumption | omega) (by first | with_reducible assumption | omega) (by first | with_reducible assumption | omega) (by first | with_reducible assumption | omega) (by first | with_reducible assumption | omega) (by first | with_reducible assumption | omega) (by first | with_reducible assumption | omega) (⟨X_k (or_l xh25 (by omega)).1 (by omega), by have q8 := (or_l xh25 (by omega)).2; rw [e32] at q8; exact q8⟩))
      · intro h1252
        refine wk_c1 r158_33 ?_
        subst hQ; exact wk_zret r158_34 (by decide) (⟨rfl, _, rfl, hP12, hF14, by omega, by omega, by have := e32; omega, by have := e32; omega, by have := e36; omega, by have := e36; have := e32; omega, by have := e40; omega, by have := e44; omega, by omega, by omega, by omega, by omega, Or.inr ⟨by omega, by rw [e44, e40]; exact F_k (or_r xh25 (by omega)) (by omega) (by omega)⟩, pr26, pr27⟩)
    · intro h1253
      exfalso
      omega
  · intro h1254
    refine wk_al0 r158_7 (wk_c1 r158_8 (wk_cv2 r158_9 kc_6_159 rfl (m7159_6 _ M0 1 x9_3 hP0 (by decide) (by decide) ex9_3 (by first | with_reducible assumption | omega) (by first | with_reducible assumption | omega)) (cqI ?_)))
    rintro v1263 M1255 ⟨hP1256, hQ1257, h1264, h1265, h1259, h1260, h1261, h1262⟩
    have hF1258 : Fr fm_m7158_6v3 M0 M1255 := hF0.tr hQ1257 rfl
    obtain ⟨v1266, e1267⟩ : ∃ v, M1255 6 4 = v := ⟨_, rfl⟩
    have h1268 := (bf_6_4 hP1256).1; rw [e1267] at h1268
    have h1269 := (bf_6_4 hP1256).2; rw [e1267] at h1269
    obtain ⟨v1270, e1271⟩ : ∃ v, M1255 6 5 = v := ⟨_, rfl⟩
    have h1272 := (bf_6_5 hP1256).1; rw [e1271] at h1272
    have h1273 := (bf_6_5 hP1256).2; rw [e1271] at h1273
    subst hQ; exact wk_zret r158_12 ⟨by omega, by omega⟩ (⟨rfl, _, rfl, hP1256, hF1258, by omega, by omega, by have := ((hQ1257.at g_9_3 rfl).trans ex9_3); omega, by have := ((hQ1257.at g_9_3 rfl).trans ex9_3); omega, by have := ((hQ1257.at g_9_2 rfl).trans ex9_2); omega, by have := ((hQ1257.at g_9_2 rfl).trans ex9_2); have := ((hQ1257.at g_9_3 rfl).trans ex9_3); omega, by have := e1267; omega, by have := e1271; omega, by omega, by omega, by omega, by omega, Or.inr ⟨by omega, by rw [e1271, e1267]; exact E_n xp0 (by omega) (by omega) (by omega)⟩, (TXP_sm (Sm.fr hQ1257 rfl) pp_TX), (TCP_sm (Sm.fr hQ1257 rfl) pp_TC)⟩)
def fm_m7168_6v2 : Nat := 3941070043873280
/-- IslandHall$Parser.parenthesis -/
theorem m7168_6v2 {B : eB} (d : Nat) (M0 : Mm) (p1 : Int) (x9_1 : Int) (x9_3 : Int) (x9_2 : Int) (x6_4 : Int) (x6_5 : Int) (x6_3 : Int) (T : Int → Int) (c0 : Cg) (hP0 : Pw M0) (l1 : 2 ≤ p1) (u1 : p1 ≤ 2) (ex9_1 : M0 9 1 = x9_1) (lx9_1 : 0 ≤ x9_1) (ux9_1 : x9_1 ≤ 500) (ex9_3 : M0 9 3 = x9_3) (lx9_3 : 0 ≤ x9_3) (ux9_3 : x9_3 ≤ 500) (ex9_2 : M0 9 2 = x9_2) (lx9_2 : 0 ≤ x9_2) (ux9_2 : x9_2 ≤ 500) (ex6_4 : M0 6 4 = x6_4) (lx6_4 : 0 ≤ x6_4) (ux6_4 : x6_4 ≤ 6) (ex6_5 : M0 6 5 = x6_5) (lx6_5 : (-1) ≤ x6_5) (ux6_5 : x6_5 ≤ 500) (ex6_3 : M0 6 3 = x6_3) (lx6_3 : (-1) ≤ x6_3) (ux6_3 : x6_3 ≤ 7) (rp0 : 0 ≤ x9_1 + (-1) * x9_2) (rp1 : 0 ≤ x9_2 + (-1) * x9_3) (rp2 : 0 ≤ x9_1 + (-1) * x9_3) (xp0 : PX T x9_1 x6_3 c0 (p1 + 1) x9_3) (pp_TX : TXP T M0) (pp_TC : TCP T M0) : Ct B (d + 23) 168 [R 6, I p1] M0 (qI fun z M => Pw M ∧ Fr fm_m7168_6v2 M0 M ∧ 0 ≤ z ∧ z ≤ 1 ∧ 0 ≤ M 9 3 + (-1) * x9_3 ∧ 0 ≤ x9_1 + (-1) * (M 9 3) ∧ 0 ≤ x9_1 + (-1) * (M 9 2) ∧ 0 ≤ M 9 2 + (-1) * (M 9 3) ∧ 0 ≤ M 6 4 ∧ 0 ≤ M 6 5 + 1 ∧ (z = 1 → 0 ≤ M 6 4 + (-1) * x6_4) ∧ (z = 1 → 0 ≤ (-1) * (M 6 4) + x6_4) ∧ (z = 1 → 0 ≤ M 6 5 + (-1) * x6_5) ∧ (z = 1 → 0 ≤ (-1) * (M 6 5) + x6_5) ∧ ((z = 1 ∧ Rch T x9_1 x6_3 c0 (2, p1 + 1, M 9 3, 0)) ∨ (z = 0 ∧ Rch T x9_1 x6_3 c0 (3, 0, M 6 5, M 6 4))) ∧ (TXP T M) ∧ (TCP T M)) := by
  refine ct_of (d := d + 22) (k := 0) (L := [some (R 6), some (I p1)]) rfl rfl rfl ?_
  have hF0 := Fr.rf fm_m7168_6v2 M0
  generalize hQ : (qI fun z M => Pw M ∧ Fr fm_m7168_6v2 M0 M ∧ 0 ≤ z ∧ z ≤ 1 ∧ 0 ≤ M 9 3 + (-1) * x9_3 ∧ 0 ≤ x9_1 + (-1) * (M 9 3) ∧ 0 ≤ x9_1 + (-1) * (M 9 2) ∧ 0 ≤ M 9 2 + (-1) * (M 9 3) ∧ 0 ≤ M 6 4 ∧ 0 ≤ M 6 5 + 1 ∧ (z = 1 → 0 ≤ M 6 4 + (-1) * x6_4) ∧ (z = 1 → 0 ≤ (-1) * (M 6 4) + x6_4) ∧ (z = 1 → 0 ≤ M 6 5 + (-1) * x6_5) ∧ (z = 1 → 0 ≤ (-1) * (M 6 5) + x6_5) ∧ ((z = 1 ∧ Rch T x9_1 x6_3 c0 (2, p1 + 1, M 9 3, 0)) ∨ (z = 0 ∧ Rch T x9_1 x6_3 c0 (3, 0, M 6 5, M 6 4))) ∧ (TXP T M) ∧ (TCP T M)) = Q
  refine wk_al0 r168_0 (wk_c2 r168_1 (wk_cv2 r168_3 kc_6_174 rfl (m7174_6 _ M0 40 x9_1 x9_3 x9_2 x6_4 x6_5 T hP0 (by decide) (by decide) ex9_1 (by first | with_reducible assumption | omega) (by first | with_reducible assumption | omega) ex9_3 (by first | with_reducible assumption | omega) (by first | with_reducible assumption | omega) ex9_2 (by first | with_reducible assumption | omega) (by first | with_reducible assumption | omega) ex6_4 (by first | with_reducible assumption | omega) (by first | with_reducible assumption | omega) ex6_5 (by first | with_reducible assumption | omega) (by first | with_reducible assumption | omega) (by omega) (by omega) (by omega) pp_TX pp_TC) (cqI ?_)))
  rintro v18 M1 ⟨hP2, hQ3, h19, h20, h5, h6, h7, h8, h9, h10, h11, h12, h13, h14, xh15, pr16, pr17⟩
  have hF4 : Fr fm_m7168_6v2 M0 M1 := hF0.tr hQ3 rfl
  obtain ⟨v21, e22⟩ : ∃ v, M1 9 3 = v := ⟨_, rfl⟩
  have h23 := (bf_9_3 hP2).1; rw [e22] at h23
  have h24 := (bf_9_3 hP2).2; rw [e22] at h24
  obtain ⟨v25, e26⟩ : ∃ v, M1 9 2 = v := ⟨_, rfl⟩
  have h27 := (bf_9_2 hP2).1; rw [e26] at h27
  have h28 := (bf_9_2 hP2).2; rw [e26] at h28
  obtain ⟨v29, e30⟩ : ∃ v, M1 6 4 = v := ⟨_, rfl⟩
  have h31 := (bf_6_4 hP2).1; rw [e30] at h31
  have h32 := (bf_6_4 hP2).2; rw [e30] at h32
  obtain ⟨v33, e34⟩ : ∃ v, M1 6 5 = v := ⟨_, rfl⟩
  have h35 := (bf_6_5 hP2).1; rw [e34] at h35
  have h36 := (bf_6_5 hP2).2; rw [e34] at h36
  refine wk_ifeq r168_6 ⟨by omega, by omega⟩ ?_ ?_
  · intro h37
    refine wk_c1 r168_32 ?_
    subst hQ; exact wk_zret r168_33 (by decide) (⟨rfl, _, rfl, hP2, hF4, by omega, by omega, by have := e22; omega, by have := e22; omega, by have := e26; omega, by have := e26; have := e22; omega, by have := e30; omega, by have := e34; omega, by omega, by omega, by omega, by omega, Or.inr ⟨by omega, by rw [e34, e30]; exact PX_0 xp0 (by omega) (by omega) (by omega)⟩, pr16, pr17⟩)
  · intro h38
    refine wk_al0 r168_9 (wk_il1 r168_10 (wk_c1 r168_11 (wk_iadd r168_12 (wk_cv2 r168_13 kc_6_158 rfl (m7158_6v3 _ M1 (p1 + 1) x9_1 v21 v25 v29 v33 x6_3 T c0 hP2 (by first | with_reducible assumption | omega) (by first | with_reducible assumption | omega) ((hQ3.at g_9_1 rfl).trans ex9_1) (by first | with_reducible assumption | omega) (by first | with_reducible assumption | omega) e22 (by first | with_reducible assumption | omega) (by first | with_reducible assumption | omega) e26 (by first | with_reducible assumption | omega) (by first | with_reducible assumption | omega) e30 (by first | with_reducible assumption | omega) (by first | with_reducible assumption | omega) e34 (by first | with_reducible assumption | omega) (by first | with_reducible assumption | omega) ((hQ3.at g_6_3 rfl).trans ex6_3) (by first | with_reducible assumption | omega) (by first | with_reducible assumption | omega) (by omega) (by omega) (by omega) (PX_1 xp0 (by omega) (by omega)) pr16 pr17) (cqI ?_)))))
    rintro v56 M39 ⟨hP40, hQ41, h57, h58, h43, h44, h45, h46, h47, h48, h49, h50, h51, h52, xh53, pr54, pr55⟩
    have hF42 : Fr fm_m7168_6v2 M0 M39 := hF4.tr hQ41 rfl
    obtain ⟨v59, e60⟩ : ∃ v, M39 9 3 = v := ⟨_, rfl⟩
    have h61 := (bf_9_3 hP40).1; rw [e60] at h61
    have h62 := (bf_9_3 hP40).2; rw [e60] at h62
    obtain ⟨v63, e64⟩ : ∃ v, M39 9 2 = v := ⟨_, rfl⟩
    have h65 := (bf_9_2 hP40).1; rw [e64] at h65
    have h66 := (bf_9_2 hP40).2; rw [e64] at h66
    obtain ⟨v67, e68⟩ : ∃ v, M39 6 4 = v := ⟨_, rfl⟩
    have h69 := (bf_6_4 hP40).1; rw [e68] at h69
    have h70 := (bf_6_4 hP40).2; rw [e68] at h70
    obtain ⟨v71, e72⟩ : ∃ v, M39 6 5 = v := ⟨_, rfl⟩
    have h73 := (bf_6_5 hP40).1; rw [e72] at h73
    have h74 := (bf_6_5 hP40).2; rw [e72] at h74
    refine wk_ifeq r168_16 ⟨by omega, by omega⟩ ?_ ?_
    · intro h75
      refine wk_c1 r168_32 ?_
      subst hQ; exact wk_zret r168_33 (by decide) (⟨rfl, _, rfl, hP40, hF42, by omega, by omega, by have := e60; omega, by have := e60; omega, by have := e64; omega, by have := e64; have := e60; omega, by have := e68; omega, by have := e72; omega, by omega, by omega, by omega, by omega, Or.inr ⟨by omega, by rw [e72, e68]; exact F_k (or_r xh53 (by omega)) (by omega) (by omega)⟩, pr54, pr55⟩)
    · intro h76
      have r2 := or_l xh53 (by omega); rw [e60] at r2
      refine wk_al0 r168_19 (wk_c2 r168_20 (wk_cv2 r168_22 kc_6_174 rfl (m7174_6 _ M39 41 x9_1 v59 v63 v67 v71 T hP40 (by decide) (by decide) ((hQ41.at g_9_1 rfl).trans ((hQ3.at g_9_1 rfl).trans ex9_1)) (by first | with_reducible assumption | omega) (by first | with_reducible assumption | omega) e60 (by first | with_reducible assumption | omega) (by first | with_reducible assumption | omega) e64 (by first | with_reducible assumption | omega) (by first | with_reducible assumption | omega) e68 (by first | with_reducible assumption | omega) (by first | with_reducible assumption | omega) e72 (by first | with_reducible assumption | omega) (by first | with_reducible assumption | omega) (by omega) (by omega) (by omega) pr54 pr55) (cqI ?_)))
      rintro v94 M77 ⟨hP78, hQ79, h95, h96, h81, h82, h83, h84, h85, h86, h87, h88, h89, h90, xh91, pr92, pr93⟩
      have hF80 : Fr fm_m7168_6v2 M0 M77 := hF42.tr hQ79 rfl
      obtain ⟨v97, e98⟩ : ∃ v, M77 9 3 = v := ⟨_, rfl⟩
      have h99 := (bf_9_3 hP78).1; rw [e98] at h99
      have h100 := (bf_9_3 hP78).2; rw [e98] at h100
      obtain ⟨v101, e102⟩ : ∃ v, M77 9 2 = v := ⟨_, rfl⟩
      have h103 := (bf_9_2 hP78).1; rw [e102] at h103
      have h104 := (bf_9_2 hP78).2; rw [e102] at h104
      obtain ⟨v105, e106⟩ : ∃ v, M77 6 4 = v := ⟨_, rfl⟩
      have h107 := (bf_6_4 hP78).1; rw [e106] at h107
      have h108 := (bf_6_4 hP78).2; rw [e106] at h108
      obtain ⟨v109, e110⟩ : ∃ v, M77 6 5 = v := ⟨_, rfl⟩
      have h111 := (bf_6_5 hP78).1; rw [e110] at h111
      have h112 := (bf_6_5 hP78).2; rw [e110] at h112
      refine wk_ifeq r168_25 ⟨by omega, by omega⟩ ?_ ?_
      · intro h113
        refine wk_c1 r168_32 ?_
        subst hQ; exact wk_zret r168_33 (by decide) (⟨rfl, _, rfl, hP78, hF80, by omega, by omega, by have := e98; omega, by have := e98; omega, by have := e102; omega, by have := e102; have := e98; omega, by have := e106; omega, by have := e110; omega, by omega, by omega, by omega, by omega, Or.inr ⟨by omega, by rw [e110, e106]; exact X_n (d := p1 + 1 + 1) r2.1 (by have := r2.2; omega) (by omega) (by omega) (by omega) (by omega)⟩, pr92, pr93⟩)
      · intro h114
        refine wk_c1 r168_28 (wk_goto r168_29 ?_)
        subst hQ; exact wk_zret r168_33 (by decide) (⟨rfl, _, rfl, hP78, hF80, by omega, by omega, by have := e98; omega, by have := e98; omega, by have := e102; omega, by have := e102; have := e98; omega, by have := e106; omega, by have := e110; omega, by have := e106; omega, by have := e106; omega, by have := e110; omega, by have := e110; omega, Or.inl ⟨by omega, by rw [e98]; exact X_c (d := p1 + 1 + 1) r2.1 (by omega) (by omega) (by omega) (by omega)⟩, pr92, pr93⟩)
def fm_m7152_6v2 : Nat := 3941070043873280
/-- IslandHall$Parser.aboutSomeone -/
theorem m7152_6v2 {B : eB} (d : Nat) (M0 : Mm) (p1 : Int) (x9_1 : Int) (x9_3 : Int) (x9_2 : Int) (x6_4 : Int) (x6_5 : Int) (x6_3 : Int) (T : Int → Int) (c0 : Cg) (gk : Int) (hP0 : Pw M0) (l1 : 2 ≤ p1) (u1 : p1 ≤ 2) (ex9_1 : M0 9 1 = x9_1) (lx9_1 : 0 ≤ x9_1) (ux9_1 : x9_1 ≤ 500) (ex9_3 : M0 9 3 = x9_3) (lx9_3 : 0 ≤ x9_3) (ux9_3 : x9_3 ≤ 500) (ex9_2 : M0 9 2 = x9_2) (lx9_2 : 0 ≤ x9_2) (ux9_2 : x9_2 ≤ 500) (ex6_4 : M0 6 4 = x6_4) (lx6_4 : 0 ≤ x6_4) (ux6_4 : x6_4 ≤ 6) (ex6_5 : M0 6 5 = x6_5) (lx6_5 : (-1) ≤ x6_5) (ux6_5 : x6_5 ≤ 500) (ex6_3 : M0 6 3 = x6_3) (lx6_3 : (-1) ≤ x6_3) (ux6_3 : x6_3 ≤ 7) (rp0 : 0 ≤ x9_1 + (-1) * x9_2) (rp1 : 0 ≤ x9_2 + (-1) * x9_3) (rp2 : 0 ≤ x9_1 + (-1) * x9_3) (xp0 : Rch T x9_1 x6_3 c0 (1, p1 + 1, x9_3, gk)) (xp1 : nmI T x9_1 x9_3 = 1) (pp_TX : TXP T M0) (pp_TC : TCP T M0) : Ct B (d + 24) 152 [R 6, I p1] M0 (qI fun z M => Pw M ∧ Fr fm_m7152_6v2 M0 M ∧ 0 ≤ z ∧ z ≤ 1 ∧ 0 ≤ M 9 3 + (-1) * x9_3 ∧ 0 ≤ x9_1 + (-1) * (M 9 3) ∧ 0 ≤ x9_1 + (-1) * (M 9 2) ∧ 0 ≤ M 9 2 + (-1) * (M 9 3) ∧ 0 ≤ M 6 4 ∧ 0 ≤ M 6 5 + 1 ∧ (z = 1 → 0 ≤ M 6 4 + (-1) * x6_4) ∧ (z = 1 → 0 ≤ (-1) * (M 6 4) + x6_4) ∧ (z = 1 → 0 ≤ M 6 5 + (-1) * x6_5) ∧ (z = 1 → 0 ≤ (-1) * (M 6 5) + x6_5) ∧ ((z = 1 ∧ Rch T x9_1 x6_3 c0 (2, p1 + 1, M 9 3, 0)) ∨ (z = 0 ∧ Rch T x9_1 x6_3 c0 (3, 0, M 6 5, M 6 4))) ∧ (TXP T M) ∧ (TCP T M)) := by
  refine ct_of (d := d + 23) (k := 2) (L := [some (R 6), some (I p1), none, none]) rfl rfl rfl ?_
  have hF0 := Fr.rf fm_m7152_6v2 M0
  generalize hQ : (qI fun z M => Pw M ∧ Fr fm_m7152_6v2 M0 M ∧ 0 ≤ z ∧ z ≤ 1 ∧ 0 ≤ M 9 3 + (-1) * x9_3 ∧ 0 ≤ x9_1 + (-1) * (M 9 3) ∧ 0 ≤ x9_1 + (-1) * (M 9 2) ∧ 0 ≤ M 9 2 + (-1) * (M 9 3) ∧ 0 ≤ M 6 4 ∧ 0 ≤ M 6 5 + 1 ∧ (z = 1 → 0 ≤ M 6 4 + (-1) * x6_4) ∧ (z = 1 → 0 ≤ (-1) * (M 6 4) + x6_4) ∧ (z = 1 → 0 ≤ M 6 5 + (-1) * x6_5) ∧ (z = 1 → 0 ≤ (-1) * (M 6 5) + x6_5) ∧ ((z = 1 ∧ Rch T x9_1 x6_3 c0 (2, p1 + 1, M 9 3, 0)) ∨ (z = 0 ∧ Rch T x9_1 x6_3 c0 (3, 0, M 6 5, M 6 4))) ∧ (TXP T M) ∧ (TCP T M)) = Q
  refine wk_al0 r152_0 (wk_cv1 r152_1 kc_6_165 rfl (m7165_6 _ M0 x9_1 x9_3 x9_2 x6_4 x6_5 x6_3 T hP0 ex9_1 (by first | with_reducible assumption | omega) (by first | with_reducible assumption | omega) ex9_3 (by first | with_reducible assumption | omega) (by first | with_reducible assumption | omega) ex9_2 (by first | with_reducible assumption | omega) (by first | with_reducible assumption | omega) ex6_4 (by first | with_reducible assumption | omega) (by first | with_reducible assumption | omega) ex6_5 (by first | with_reducible assumption | omega) (by first | with_reducible assumption | omega) ex6_3 (by first | with_reducible assumption | omega) (by first | with_reducible assumption | omega) (by omega) (by omega) (by omega) pp_TX pp_TC) (cqI ?_))
  rintro v14 M1 ⟨hP2, hQ3, h15, h16, h5, h6, h7, h8, h9, h10, xh11, pr12, pr13⟩
  have hF4 : Fr fm_m7152_6v2 M0 M1 := hF0.tr hQ3 rfl
  obtain ⟨v17, e18⟩ : ∃ v, M1 9 3 = v := ⟨_, rfl⟩
  have h19 := (bf_9_3 hP2).1; rw [e18] at h19
  have h20 := (bf_9_3 hP2).2; rw [e18] at h20
  obtain ⟨v21, e22⟩ : ∃ v, M1 9 2 = v := ⟨_, rfl⟩
  have h23 := (bf_9_2 hP2).1; rw [e22] at h23
  have h24 := (bf_9_2 hP2).2; rw [e22] at h24
  obtain ⟨v25, e26⟩ : ∃ v, M1 6 4 = v := ⟨_, rfl⟩
  have h27 := (bf_6_4 hP2).1; rw [e26] at h27
  have h28 := (bf_6_4 hP2).2; rw [e26] at h28
  obtain ⟨v29, e30⟩ : ∃ v, M1 6 5 = v := ⟨_, rfl⟩
  have h31 := (bf_6_5 hP2).1; rw [e30] at h31
  have h32 := (bf_6_5 hP2).2; rw [e30] at h32
  refine wk_is2 r152_4 rfl (wk_il2 r152_5 (wk_c1 r152_6 ?_))
  refine wk_icne r152_7 ⟨by omega, by omega⟩ (by decide) ?_ ?_
  · intro h33
    have r1 : Rch T x9_1 x6_3 c0 (stN T x9_1 x6_3 (p1 + 1) v17) := N1 xp0 xp1 (by omega) (by omega)
    refine wk_al0 r152_12 (wk_c8 r152_13 (wk_cv2 r152_15 kc_6_175 rfl (m7175_6 _ M1 4111 x9_1 v17 v21 T hP2 (by decide) ((hQ3.at g_9_1 rfl).trans ex9_1) (by first | with_reducible assumption | omega) (by first | with_reducible assumption | omega) e18 (by first | with_reducible assumption | omega) (by first | with_reducible assumption | omega) e22 (by first | with_reducible assumption | omega) (by first | with_reducible assumption | omega) (by omega) (by omega) (by omega) (by first | assumption | omega | (unfold stepok; omega)) pr12 pr13) (cqI ?_)))
    rintro v46 M34 ⟨hP35, hQ36, h47, h48, h38, h39, h40, h41, h42, xh43, pr44, pr45⟩
    have hF37 : Fr fm_m7152_6v2 M0 M34 := hF4.tr hQ36 rfl
    obtain ⟨v49, e50⟩ : ∃ v, M34 9 3 = v := ⟨_, rfl⟩
    have h51 := (bf_9_3 hP35).1; rw [e50] at h51
    have h52 := (bf_9_3 hP35).2; rw [e50] at h52
    obtain ⟨v53, e54⟩ : ∃ v, M34 9 2 = v := ⟨_, rfl⟩
    have h55 := (bf_9_2 hP35).1; rw [e54] at h55
    have h56 := (bf_9_2 hP35).2; rw [e54] at h56
    rw [show wix 4111 = 15 from rfl] at xh43
    refine wk_ifeq r152_18 ⟨by omega, by omega⟩ ?_ ?_
    · intro h57
      obtain rfl : v17 = v49 := by omega
      obtain rfl : v21 = v53 := by omega
      refine wk_al0 r152_35 (wk_c8 r152_36 (wk_cv2 r152_38 kc_6_175 rfl (m7175_6 _ M34 4112 x9_1 v17 v21 T hP35 (by decide) ((hQ36.at g_9_1 rfl).trans ((hQ3.at g_9_1 rfl).trans ex9_1)) (by first | with_reducible assumption | omega) (by first | with_reducible assumption | omega) e50 (by first | with_reducible assumption | omega) (by first | with_reducible assumption | omega) e54 (by first | with_reducible assumption | omega) (by first | with_reducible assumption | omega) (by omega) (by omega) (by omega) (by first | assumption | omega | (unfold stepok; omega)) pr44 pr45) (cqI ?_)))
      rintro v70 M58 ⟨hP59, hQ60, h71, h72, h62, h63, h64, h65, h66, xh67, pr68, pr69⟩
      have hF61 : Fr fm_m7152_6v2 M0 M58 := hF37.tr hQ60 rfl
      obtain ⟨v73, e74⟩ : ∃ v, M58 9 3 = v := ⟨_, rfl⟩
      have h75 := (bf_9_3 hP59).1; rw [e74] at h75
      have h76 := (bf_9_3 hP59).2; rw [e74] at h76
      obtain ⟨v77, e78⟩ : ∃ v, M58 9 2 = v := ⟨_, rfl⟩
      have h79 := (bf_9_2 hP59).1; rw [e78] at h79
      have h80 := (bf_9_2 hP59).2; rw [e78] at h80
      rw [show wix 4112 = 16 from rfl] at xh67
      refine wk_ifeq r152_41 ⟨by omega, by omega⟩ ?_ ?_
      · intro h81
        obtain rfl : v17 = v73 := by omega
        obtain rfl : v21 = v77 := by omega
        refine wk_al0 r152_73 (wk_c8 r152_74 (wk_cv2 r152_76 kc_6_175 rfl (m7175_6 _ M58 4113 x9_1 v17 v21 T hP59 (by decide) ((hQ60.at g_9_1 rfl).trans ((hQ36.at g_9_1 rfl).trans ((hQ3.at g_9_1 rfl).trans ex9_1))) (by first | with_reducible assumption | omega) (by first | with_reducible assumption | omega) e74 (by first | with_reducible assumption | omega) (by first | with_reducible assumption | omega) e78 (by first | with_reducible assumption | omega) (by first | with_reducible assumption | omega) (by omega) (by omega) (by omega) (by first | assumption | omega | (unfold stepok; omega)) pr68 pr69) (cqI ?_)))
        rintro v94 M82 ⟨hP83, hQ84, h95, h96, h86, h87, h88, h89, h90, xh91, pr92, pr93⟩
        have hF85 : Fr fm_m7152_6v2 M0 M82 := hF61.tr hQ84 rfl
        obtain ⟨v97, e98⟩ : ∃ v, M82 9 3 = v := ⟨_, rfl⟩
        have h99 := (bf_9_3 hP83).1; rw [e98] at h99
        have h100 := (bf_9_3 hP83).2; rw [e98] at h100
        obtain ⟨v101, e102⟩ : ∃ v, M82 9 2 = v := ⟨_, rfl⟩
        have h103 := (bf_9_2 hP83).1; rw [e102] at h103
        have h104 := (bf_9_2 hP83).2; rw [e102] at h104
        rw [show wix 4113 = 17 from rfl] at xh91
        refine wk_ifne r152_79 ⟨by omega, by omega⟩ ?_ ?_
        · intro h105
          refine wk_al0 r152_88 (wk_il1 r152_89 (wk_cv2 r152_90 kc_6_168 rfl (m7168_6v2 _ M82 p1 x9_1 v97 v101 v25 v29 x6_3 T c0 hP83 (by first | with_reducible assumption | omega) (by first | with_reducible assumption | omega) ((hQ84.at g_9_1 rfl).trans ((hQ60.at g_9_1 rfl).trans ((hQ36.at g_9_1 rfl).trans ((hQ3.at g_9_1 rfl).trans ex9_1)))) (by first | with_reducible assumption | omega) (by first | with_reducible assumption | omega) e98 (by first | with_reducible assumption | omega) (by first | with_reducible assumption | omega) e102 (by first | with_reducible assumption | omega) (by first | with_reducible assumption | omega) ((hQ84.at g_6_4 rfl).trans ((hQ60.at g_6_4 rfl).trans ((hQ36.at g_6_4 rfl).trans e26))) (by first | with_reducible assumption | omega) (by first | with_reducible assumption | omega) ((hQ84.at g_6_5 rfl).trans ((hQ60.at g_6_5 rfl).trans ((hQ36.at g_6_5 rfl).trans e30))) (by first | with_reducible assumption | omega) (by first | with_reducible assumption | omega) ((hQ84.at g_6_3 rfl).trans ((hQ60.at g_6_3 rfl).trans ((hQ36.at g_6_3 rfl).trans ((hQ3.at g_6_3 rfl).trans ex6_3)))) (by first | with_reducible assumption | omega) (by first | with_reducible assumption | omega) (by omega) (by omega) (by omega) (N_s r1 (by omega) (by omega)) pr92 pr93) (cqI ?_)))
          rintro v123 M106 ⟨hP107, hQ108, h124, h125, h110, h111, h112, h113, h114, h115, h116, h117, h118, h119, xh120, pr121, pr122⟩
          have hF109 : Fr fm_m7152_6v2 M0 M106 := hF85.tr hQ108 rfl
          obtain ⟨v126, e127⟩ : ∃ v, M106 9 3 = v := ⟨_, rfl⟩
          have h128 := (bf_9_3 hP107).1; rw [e127] at h128
          have h129 := (bf_9_3 hP107).2; rw [e127] at h129
          obtain ⟨v130, e131⟩ : ∃ v, M106 9 2 = v := ⟨_, rfl⟩
          have h132 := (bf_9_2 hP107).1; rw [e131] at h132
          have h133 := (bf_9_2 hP107).2; rw [e131] at h133
          obtain ⟨v134, e135⟩ : ∃ v, M106 6 4 = v := ⟨_, rfl⟩
          have h136 := (bf_6_4 hP107).1; rw [e135] at h136
          have h137 := (bf_6_4 hP107).2; rw [e135] at h137
          obtain ⟨v138, e139⟩ : ∃ v, M106 6 5 = v := ⟨_, rfl⟩
          have h140 := (bf_6_5 hP107).1; rw [e139] at h140
          have h141 := (bf_6_5 hP107).2; rw [e139] at h141
          refine wk_ifne r152_93 ⟨by omega, by omega⟩ ?_ ?_
          · intro h142
            refine wk_al0 r152_98 ?_
            obtain ⟨v143, e144⟩ : ∃ v, M106 6 2 = v := ⟨_, rfl⟩
            have hC145 : isC v143 := by have := pcE hP107; rw [e144] at this; exact this
            refine wk_getfr r152_99 fd_6_2 e144 (wk_il2 r152_102 (wk_cv2 r152_103 (kcC_139 hC145) rfl (m7139 _ M106 v143 v14 hP107 hC145 (by first | with_reducible assumption | omega) (by first | with_reducible assumption | omega)) (cqV ?_)))
            rintro M146 ⟨hP147, hQ148⟩
            have hF149 : Fr fm_m7152_6v2 M0 M146 := hF109.tr hQ148 rfl
            refine wk_c1 r152_106 ?_
            subst hQ; exact wk_zret r152_107 (by decide) (⟨rfl, _, rfl, hP147, hF149, by omega, by omega, by have := ((hQ148.at g_9_3 rfl).trans e127); omega, by have := ((hQ148.at g_9_3 rfl).trans e127); omega, by have := ((hQ148.at g_9_2 rfl).trans e131); omega, by have := ((hQ148.at g_9_2 rfl).trans e131); have := ((hQ148.at g_9_3 rfl).trans e127); omega, by have := ((hQ148.at g_6_4 rfl).trans e135); omega, by have := ((hQ148.at g_6_5 rfl).trans e139); omega, by have := ((hQ148.at g_6_4 rfl).trans e135); omega, by have := ((hQ148.at g_6_4 rfl).trans e135); omega, by have := ((hQ148.at g_6_5 rfl).trans e139); omega, by have := ((hQ148.at g_6_5 rfl).trans e139); omega, Or.inl ⟨by omega, by rw [((hQ148.at g_9_3 rfl).trans e127)]; exact X_k (or_l xh120 (by omega)) (by omega)⟩, (TXP_sm (Sm.fr hQ148 rfl) pr121), (TCP_sm (Sm.fr hQ148 rfl) pr122)⟩)
          · intro h150
            refine wk_c1 r152_96 ?_
            subst hQ; exact wk_zret r152_97 (by decide) (⟨rfl, _, rfl, hP107, hF109, by omega, by omega, by have := e127; omega, by have := e127; omega, by have := e131; omega, by have := e131; have := e127; omega, by have := e135; omega, by have := e139; omega, by omega, by omega, by omega, by omega, Or.inr ⟨by omega, by rw [e139, e135]; exact F_k (or_r xh120 (by omega)) (by omega) (by omega)⟩, pr121, pr122⟩)
        · intro h151
          obtain rfl : v17 = v97 := by omega
          obtain rfl : v21 = v101 := by omega
          refine wk_al0 r152_82 (wk_c1 r152_83 (wk_cv2 r152_84 kc_6_159 rfl (m7159_6 _ M82 1 v17 hP83 (by decide) (by decide) e98 (by first | with_reducible assumption | omega) (by first | with_reducible assumption | omega)) (cqI ?_)))
          rintro v160 M152 ⟨hP153, hQ154, h161, h162, h156, h157, h158, h159⟩
          have hF155 : Fr fm_m7152_6v2 M0 M152 := hF85.tr hQ154 rfl
          obtain ⟨v163, e164⟩ : ∃ v, M152 6 4 = v := ⟨_, rfl⟩
          have h165 := (bf_6_4 hP153).1; rw [e164] at h165
          have h166 := (bf_6_4 hP153).2; rw [e164] at h166
          obtain ⟨v167, e168⟩ : ∃ v, M152 6 5 = v := ⟨_, rfl⟩
          have h169 := (bf_6_5 hP153).1; rw [e168] at h169
          have h170 := (bf_6_5 hP153).2; rw [e168] at h170
          subst hQ; exact wk_zret r152_87 ⟨by omega, by omega⟩ (⟨rfl, _, rfl, hP153, hF155, by omega, by omega, by have := ((hQ154.at g_9_3 rfl).trans e98); omega, by have := ((hQ154.at g_9_3 rfl).trans e98); omega, by have := ((hQ154.at g_9_2 rfl).trans e102); omega, by have := ((hQ154.at g_9_2 rfl).trans e102); have := ((hQ154.at g_9_3 rfl).trans e98); omega, by have := e164; omega, by have := e168; omega, by omega, by omega, by omega, by omega, Or.inr ⟨by omega, by rw [e168, e164]; exact N_n r1 (by omega) (by omega) (by omega) (by omega) (by omega)⟩, (TXP_sm (Sm.fr hQ154 rfl) pr92), (TCP_sm (Sm.fr hQ154 rfl) pr93)⟩)
      · intro h171
        refine wk_al0 r152_44 (wk_cv1 r152_45 kc_6_165 rfl (m7165_6 _ M58 x9_1 v73 v77 v25 v29 x6_3 T hP59 ((hQ60.at g_9_1 rfl).trans ((hQ36.at g_9_1 rfl).trans ((hQ3.at g_9_1 rfl).trans ex9_1))) (by first | with_reducible assumption | omega) (by first | with_reducible assumption | omega) e74 (by first | with_reducible assumption | omega) (by first | with_reducible assumption | omega) e78 (by first | with_reducible assumption | omega) (by first | with_reducible assumption | omega) ((hQ60.at g_6_4 rfl).trans ((hQ36.at g_6_4 rfl).trans e26)) (by first | with_reducible assumption | omega) (by first | with_reducible assumption | omega) ((hQ60.at g_6_5 rfl).trans ((hQ36.at g_6_5 rfl).trans e30)) (by first | with_reducible assumption | omega) (by first | with_reducible assumption | omega) ((hQ60.at g_6_3 rfl).trans ((hQ36.at g_6_3 rfl).trans ((hQ3.at g_6_3 rfl).trans ex6_3))) (by first | with_reducible assumption | omega) (by first | with_reducible assumption | omega) (by omega) (by omega) (by omega) pr68 pr69) (cqI ?_))
        rintro v185 M172 ⟨hP173, hQ174, h186, h187, h176, h177, h178, h179, h180, h181, xh182, pr183, pr184⟩
        have hF175 : Fr fm_m7152_6v2 M0 M172 := hF61.tr hQ174 rfl
        obtain ⟨v188, e189⟩ : ∃ v, M172 9 3 = v := ⟨_, rfl⟩
        have h190 := (bf_9_3 hP173).1; rw [e189] at h190
        have h191 := (bf_9_3 hP173).2; rw [e189] at h191
        obtain ⟨v192, e193⟩ : ∃ v, M172 9 2 = v := ⟨_, rfl⟩
        have h194 := (bf_9_2 hP173).1; rw [e193] at h194
        have h195 := (bf_9_2 hP173).2; rw [e193] at h195
        obtain ⟨v196, e197⟩ : ∃ v, M172 6 4 = v := ⟨_, rfl⟩
        have h198 := (bf_6_4 hP173).1; rw [e197] at h198
        have h199 := (bf_6_4 hP173).2; rw [e197] at h199
        obtain ⟨v200, e201⟩ : ∃ v, M172 6 5 = v := ⟨_, rfl⟩
        have h202 := (bf_6_5 hP173).1; rw [e201] at h202
        have h203 := (bf_6_5 hP173).2; rw [e201] at h203
        refine wk_is3 r152_48 rfl (wk_il3 r152_49 (wk_c1 r152_50 ?_))
        refine wk_iceq r152_51 ⟨by omega, by omega⟩ (by decide) ?_ ?_
        · intro h204
          refine wk_c1 r152_71 ?_
          subst hQ; exact wk_zret r152_72 (by decide) (⟨rfl, _, rfl, hP173, hF175, by omega, by omega, by have := e189; omega, by have := e189; omega, by have := e193; omega, by have := e193; have := e189; omega, by have := e197; omega, by have := e201; omega, by omega, by omega, by omega, by omega, Or.inr ⟨by omega, by rw [e201, e197]; exact N_an (v2 := v73) r1 (by omega) (by omega) (by omega) (by omega) (by omega)⟩, pr183, pr184⟩)
        · intro h205
          refine wk_al0 r152_54 (wk_c1 r152_55 (wk_il2 r152_56 (wk_c1 r152_57 (wk_ishlc r152_58 (by decide) pwl_3 (wk_il3 r152_59 (wk_iord2 3 8 r152_60 (by decide) ⟨by omega, by omega⟩ ⟨by omega, by omega, by omega⟩ (wk_cv3 r152_61 kc_6_172 rfl (m7172_6 _ M172 5 ((v14 * 8) + v185) hP173 (by decide) (by decide) (by first | with_reducible assumption | omega) (by first | with_reducible assumption | omega) (by first | assumption | omega | (unfold stepok; omega))) (cqI ?_))))))))
          rintro v210 M206 ⟨hP207, hQ208, h211, h212⟩
          have hF209 : Fr fm_m7152_6v2 M0 M206 := hF175.tr hQ208 rfl
          refine wk_ifeq r152_64 ⟨by omega, by omega⟩ ?_ ?_
          · intro h213
            exfalso
            omega
          · intro h214
            refine wk_c1 r152_67 (wk_goto r152_68 ?_)
            subst hQ; exact wk_zret r152_72 (by decide) (⟨rfl, _, rfl, hP207, hF209, by omega, by omega, by have := ((hQ208.at g_9_3 rfl).trans e189); omega, by have := ((hQ208.at g_9_3 rfl).trans e189); omega, by have := ((hQ208.at g_9_2 rfl).trans e193); omega, by have := ((hQ208.at g_9_2 rfl).trans e193); have := ((hQ208.at g_9_3 rfl).trans e189); omega, by have := ((hQ208.at g_6_4 rfl).trans e197); omega, by have := ((hQ208.at g_6_5 rfl).trans e201); omega, by have := ((hQ208.at g_6_4 rfl).trans e197); omega, by have := ((hQ208.at g_6_4 rfl).trans e197); omega, by have := ((hQ208.at g_6_5 rfl).trans e201); omega, by have := ((hQ208.at g_6_5 rfl).trans e201); omega, Or.inl ⟨by omega, by rw [((hQ208.at g_9_3 rfl).trans e189)]; exact N_a (v2 := v73) r1 (by omega) (by omega) (by omega) (by omega)⟩, (TXP_sm (Sm.fr hQ208 rfl) pr183), (TCP_sm (Sm.fr hQ208 rfl) pr184)⟩)
    · intro h215
      refine wk_al0 r152_21 (wk_c1 r152_22 (wk_il2 r152_23 (wk_c1 r152_24 (wk_imul r152_25 (wk_iadd r152_26 (wk_al0 r152_27 (wk_cv1 r152_28 kc_6_173 rfl (m7173_6 _ M34 x9_1 v49 v53 v25 v29 T hP35 ((hQ36.at g_9_1 rfl).trans ((hQ3.at g_9_1 rfl).trans ex9_1)) (by first | with_reducible assumption | omega) (by first | with_reducible assumption | omega) e50 (by first | with_reducible assumption | omega) (by first | with_reducible assumption | omega) e54 (by first | with_reducible assumption | omega) (by first | with_reducible assumption | omega) ((hQ36.at g_6_4 rfl).trans e26) (by first | with_reducible assumption | omega) (by first | with_reducible assumption | omega) ((hQ36.at g_6_5 rfl).trans e30) (by first | with_reducible assumption | omega) (by first | with_reducible assumption | omega) (by omega) (by omega) (by omega) pr44 pr45) (cqI ?_))))))))
      rintro v229 M216 ⟨hP217, hQ218, h230, h231, h220, h221, h222, h223, h224, h225, xh226, pr227, pr228⟩
      have hF219 : Fr fm_m7152_6v2 M0 M216 := hF37.tr hQ218 rfl
      obtain ⟨v232, e233⟩ : ∃ v, M216 9 3 = v := ⟨_, rfl⟩
      have h234 := (bf_9_3 hP217).1; rw [e233] at h234
      have h235 := (bf_9_3 hP217).2; rw [e233] at h235
      obtain ⟨v236, e237⟩ : ∃ v, M216 9 2 = v := ⟨_, rfl⟩
      have h238 := (bf_9_2 hP217).1; rw [e237] at h238
      have h239 := (bf_9_2 hP217).2; rw [e237] at h239
      obtain ⟨v240, e241⟩ : ∃ v, M216 6 4 = v := ⟨_, rfl⟩
      have h242 := (bf_6_4 hP217).1; rw [e241] at h242
      have h243 := (bf_6_4 hP217).2; rw [e241] at h243
      obtain ⟨v244, e245⟩ : ∃ v, M216 6 5 = v := ⟨_, rfl⟩
      have h246 := (bf_6_5 hP217).1; rw [e245] at h246
      have h247 := (bf_6_5 hP217).2; rw [e245] at h247
      refine wk_cv3 r152_31 kc_6_171 rfl (m7171_6v3 _ M216 (0 + (v14 * 5)) v229 hP217 (by first | with_reducible assumption | omega) (by first | with_reducible assumption | omega) (by first | with_reducible assumption | omega) (by first | with_reducible assumption | omega)) (cqI ?_)
      rintro v253 M248 ⟨hP249, hQ250, h254, h255, xh252⟩
      have hF251 : Fr fm_m7152_6v2 M0 M248 := hF219.tr hQ250 rfl
      subst hQ; exact wk_zret r152_34 ⟨by omega, by omega⟩ (⟨rfl, _, rfl, hP249, hF251, by omega, by omega, by have := ((hQ250.at g_9_3 rfl).trans e233); omega, by have := ((hQ250.at g_9_3 rfl).trans e233); omega, by have := ((hQ250.at g_9_2 rfl).trans e237); omega, by have := ((hQ250.at g_9_2 rfl).trans e237); have := ((hQ250.at g_9_3 rfl).trans e233); omega, by have := ((hQ250.at g_6_4 rfl).trans e241); omega, by have := ((hQ250.at g_6_5 rfl).trans e245); omega, by have := ((hQ250.at g_6_4 rfl).trans e241); omega, by have := ((hQ250.at g_6_4 rfl).trans e241); omega, by have := ((hQ250.at g_6_5 rfl).trans e245); omega, by have := ((hQ250.at g_6_5 rfl).trans e245); omega, by rcases (show v253 = 1 ∨ v253 = 0 by omega) with q9 | q9; (exact Or.inl ⟨q9, by rw [((hQ250.at g_9_3 rfl).trans e233)]; exact N_i (v2 := v49) r1 (by omega) (by omega) (by omega) (by omega)⟩); (exact Or.inr ⟨q9, by rw [((hQ250.at g_6_5 rfl).trans e245), ((hQ250.at g_6_4 rfl).trans e241)]; exact N_in (v2 := v49) r1 (by omega) (by omega) (by omega) (by omega) (by omega)⟩), (TXP_sm (Sm.fr hQ250 rfl) pr227), (TCP_sm (Sm.fr hQ250 rfl) pr228)⟩)
  · intro h256
    refine wk_c1 r152_10 ?_
    subst hQ; exact wk_zret r152_11 (by decide) (⟨rfl, _, rfl, hP2, hF4, by omega, by omega, by have := e18; omega, by have := e18; omega, by have := e22; omega, by have := e22; have := e18; omega, by have := e26; omega, by have := e30; omega, by omega, by omega, by omega, by omega, Or.inr ⟨by omega, by rw [e30, e26]; exact N0 xp0 xp1 (by omega) (by omega) (by omega)⟩, pr12, pr13⟩)
def fm_m7153_6v2 : Nat := 3941070043873280
/-- IslandHall$Parser.atom -/
theorem m7153_6v2 {B : eB} (d : Nat) (M0 : Mm) (p1 : Int) (x9_1 : Int) (x9_3 : Int) (x9_2 : Int) (x6_4 : Int) (x6_5 : Int) (x6_3 : Int) (T : Int → Int) (c0 : Cg) (gk : Int) (hP0 : Pw M0) (l1 : 2 ≤ p1) (u1 : p1 ≤ 2) (ex9_1 : M0 9 1 = x9_1) (lx9_1 : 0 ≤ x9_1) (ux9_1 : x9_1 ≤ 500) (ex9_3 : M0 9 3 = x9_3) (lx9_3 : 0 ≤ x9_3) (ux9_3 : x9_3 ≤ 500) (ex9_2 : M0 9 2 = x9_2) (lx9_2 : 0 ≤ x9_2) (ux9_2 : x9_2 ≤ 500) (ex6_4 : M0 6 4 = x6_4) (lx6_4 : 0 ≤ x6_4) (ux6_4 : x6_4 ≤ 6) (ex6_5 : M0 6 5 = x6_5) (lx6_5 : (-1) ≤ x6_5) (ux6_5 : x6_5 ≤ 500) (ex6_3 : M0 6 3 = x6_3) (lx6_3 : (-1) ≤ x6_3) (ux6_3 : x6_3 ≤ 7) (rp0 : 0 ≤ x9_1 + (-1) * x9_2) (rp1 : 0 ≤ x9_2 + (-1) * x9_3) (rp2 : 0 ≤ x9_1 + (-1) * x9_3) (xp0 : Rch T x9_1 x6_3 c0 (1, p1 + 1, x9_3, gk)) (xp1 : kw T x9_1 x9_3 ≠ 14) (xp2 : sgI T x9_1 x9_3 40 ≠ 1) (pp_TX : TXP T M0) (pp_TC : TCP T M0) : Ct B (d + 25) 153 [R 6, I p1] M0 (qI fun z M => Pw M ∧ Fr fm_m7153_6v2 M0 M ∧ 0 ≤ z ∧ z ≤ 1 ∧ 0 ≤ M 9 3 + (-1) * x9_3 ∧ 0 ≤ x9_1 + (-1) * (M 9 3) ∧ 0 ≤ x9_1 + (-1) * (M 9 2) ∧ 0 ≤ M 9 2 + (-1) * (M 9 3) ∧ 0 ≤ M 6 4 ∧ 0 ≤ M 6 5 + 1 ∧ (z = 1 → 0 ≤ M 6 4 + (-1) * x6_4) ∧ (z = 1 → 0 ≤ (-1) * (M 6 4) + x6_4) ∧ (z = 1 → 0 ≤ M 6 5 + (-1) * x6_5) ∧ (z = 1 → 0 ≤ (-1) * (M 6 5) + x6_5) ∧ ((z = 1 ∧ Rch T x9_1 x6_3 c0 (2, p1 + 1, M 9 3, 0)) ∨ (z = 0 ∧ Rch T x9_1 x6_3 c0 (3, 0, M 6 5, M 6 4))) ∧ (TXP T M) ∧ (TCP T M)) := by
  refine ct_of (d := d + 24) (k := 0) (L := [some (R 6), some (I p1)]) rfl rfl rfl ?_
  have hF0 := Fr.rf fm_m7153_6v2 M0
  generalize hQ : (qI fun z M => Pw M ∧ Fr fm_m7153_6v2 M0 M ∧ 0 ≤ z ∧ z ≤ 1 ∧ 0 ≤ M 9 3 + (-1) * x9_3 ∧ 0 ≤ x9_1 + (-1) * (M 9 3) ∧ 0 ≤ x9_1 + (-1) * (M 9 2) ∧ 0 ≤ M 9 2 + (-1) * (M 9 3) ∧ 0 ≤ M 6 4 ∧ 0 ≤ M 6 5 + 1 ∧ (z = 1 → 0 ≤ M 6 4 + (-1) * x6_4) ∧ (z = 1 → 0 ≤ (-1) * (M 6 4) + x6_4) ∧ (z = 1 → 0 ≤ M 6 5 + (-1) * x6_5) ∧ (z = 1 → 0 ≤ (-1) * (M 6 5) + x6_5) ∧ ((z = 1 ∧ Rch T x9_1 x6_3 c0 (2, p1 + 1, M 9 3, 0)) ∨ (z = 0 ∧ Rch T x9_1 x6_3 c0 (3, 0, M 6 5, M 6 4))) ∧ (TXP T M) ∧ (TCP T M)) = Q
  refine wk_al0 r153_0 (wk_getfr r153_1 fd_6_0 (br_6_0 hP0) (wk_cv1 r153_4 kc_9_237 rfl (m7237_9 _ M0 x9_1 x9_3 T hP0 ex9_1 (by first | with_reducible assumption | omega) (by first | with_reducible assumption | omega) ex9_3 (by first | with_reducible assumption | omega) (by first | with_reducible assumption | omega) pp_TX pp_TC) (cqI ?_)))
  rintro v6 M1 ⟨hP2, hQ3, h7, h8, xh5⟩
  obtain rfl := Fr.same hQ3
  refine wk_ifeq r153_7 ⟨by omega, by omega⟩ ?_ ?_
  · intro h9
    refine wk_al0 r153_16 (wk_c8 r153_17 (wk_cv2 r153_19 kc_6_175 rfl (m7175_6 _ M0 4114 x9_1 x9_3 x9_2 T hP0 (by decide) ex9_1 (by first | with_reducible assumption | omega) (by first | with_reducible assumption | omega) ex9_3 (by first | with_reducible assumption | omega) (by first | with_reducible assumption | omega) ex9_2 (by first | with_reducible assumption | omega) (by first | with_reducible assumption | omega) (by omega) (by omega) (by omega) (by first | assumption | omega | (unfold stepok; omega)) pp_TX pp_TC) (cqI ?_)))
    rintro v22 M10 ⟨hP11, hQ12, h23, h24, h14, h15, h16, h17, h18, xh19, pr20, pr21⟩
    have hF13 : Fr fm_m7153_6v2 M0 M10 := hF0.tr hQ12 rfl
    obtain ⟨v25, e26⟩ : ∃ v, M10 9 3 = v := ⟨_, rfl⟩
    have h27 := (bf_9_3 hP11).1; rw [e26] at h27
    have h28 := (bf_9_3 hP11).2; rw [e26] at h28
    obtain ⟨v29, e30⟩ : ∃ v, M10 9 2 = v := ⟨_, rfl⟩
    have h31 := (bf_9_2 hP11).1; rw [e30] at h31
    have h32 := (bf_9_2 hP11).2; rw [e30] at h32
    rw [show wix 4114 = 18 from rfl] at xh19
    refine wk_ifeq r153_22 ⟨by omega, by omega⟩ ?_ ?_
    · intro h33
      obtain rfl : x9_3 = v25 := by omega
      obtain rfl : x9_2 = v29 := by omega
      refine wk_al0 r153_38 (wk_c8 r153_39 (wk_cv2 r153_41 kc_6_175 rfl (m7175_6 _ M10 4115 x9_1 x9_3 x9_2 T hP11 (by decide) ((hQ12.at g_9_1 rfl).trans ex9_1) (by first | with_reducible assumption | omega) (by first | with_reducible assumption | omega) e26 (by first | with_reducible assumption | omega) (by first | with_reducible assumption | omega) e30 (by first | with_reducible assumption | omega) (by first | with_reducible assumption | omega) (by omega) (by omega) (by omega) (by first | assumption | omega | (unfold stepok; omega)) pr20 pr21) (cqI ?_)))
      rintro v46 M34 ⟨hP35, hQ36, h47, h48, h38, h39, h40, h41, h42, xh43, pr44, pr45⟩
      have hF37 : Fr fm_m7153_6v2 M0 M34 := hF13.tr hQ36 rfl
      obtain ⟨v49, e50⟩ : ∃ v, M34 9 3 = v := ⟨_, rfl⟩
      have h51 := (bf_9_3 hP35).1; rw [e50] at h51
      have h52 := (bf_9_3 hP35).2; rw [e50] at h52
      obtain ⟨v53, e54⟩ : ∃ v, M34 9 2 = v := ⟨_, rfl⟩
      have h55 := (bf_9_2 hP35).1; rw [e54] at h55
      have h56 := (bf_9_2 hP35).2; rw [e54] at h56
      rw [show wix 4115 = 8 from rfl] at xh43
      refine wk_ifeq r153_44 ⟨by omega, by omega⟩ ?_ ?_
      · intro h57
        obtain rfl : x9_3 = v49 := by omega
        obtain rfl : x9_2 = v53 := by omega
        refine wk_al0 r153_61 (wk_c8 r153_62 (wk_cv2 r153_64 kc_6_175 rfl (m7175_6 _ M34 4116 x9_1 x9_3 x9_2 T hP35 (by decide) ((hQ36.at g_9_1 rfl).trans ((hQ12.at g_9_1 rfl).trans ex9_1)) (by first | with_reducible assumption | omega) (by first | with_reducible assumption | omega) e50 (by first | with_reducible assumption | omega) (by first | with_reducible assumption | omega) e54 (by first | with_reducible assumption | omega) (by first | with_reducible assumption | omega) (by omega) (by omega) (by omega) (by first | assumption | omega | (unfold stepok; omega)) pr44 pr45) (cqI ?_)))
        rintro v70 M58 ⟨hP59, hQ60, h71, h72, h62, h63, h64, h65, h66, xh67, pr68, pr69⟩
        have hF61 : Fr fm_m7153_6v2 M0 M58 := hF37.tr hQ60 rfl
        obtain ⟨v73, e74⟩ : ∃ v, M58 9 3 = v := ⟨_, rfl⟩
        have h75 := (bf_9_3 hP59).1; rw [e74] at h75
        have h76 := (bf_9_3 hP59).2; rw [e74] at h76
        obtain ⟨v77, e78⟩ : ∃ v, M58 9 2 = v := ⟨_, rfl⟩
        have h79 := (bf_9_2 hP59).1; rw [e78] at h79
        have h80 := (bf_9_2 hP59).2; rw [e78] at h80
        rw [show wix 4116 = 20 from rfl] at xh67
        refine wk_ifeq r153_67 ⟨by omega, by omega⟩ ?_ ?_
        · intro h81
          obtain rfl : x9_3 = v73 := by omega
          obtain rfl : x9_2 = v77 := by omega
          refine wk_al0 r153_83 (wk_c8 r153_84 (wk_cv2 r153_86 kc_6_175 rfl (m7175_6 _ M58 4117 x9_1 x9_3 x9_2 T hP59 (by decide) ((hQ60.at g_9_1 rfl).trans ((hQ36.at g_9_1 rfl).trans ((hQ12.at g_9_1 rfl).trans ex9_1))) (by first | with_reducible assumption | omega) (by first | with_reducible assumption | omega) e74 (by first | with_reducible assumption | omega) (by first | with_reducible assumption | omega) e78 (by first | with_reducible assumption | omega) (by first | with_reducible assumption | omega) (by omega) (by omega) (by omega) (by first | assumption | omega | (unfold stepok; omega)) pr68 pr69) (cqI ?_)))
          rintro v94 M82 ⟨hP83, hQ84, h95, h96, h86, h87, h88, h89, h90, xh91, pr92, pr93⟩
          have hF85 : Fr fm_m7153_6v2 M0 M82 := hF61.tr hQ84 rfl
          obtain ⟨v97, e98⟩ : ∃ v, M82 9 3 = v := ⟨_, rfl⟩
          have h99 := (bf_9_3 hP83).1; rw [e98] at h99
          have h100 := (bf_9_3 hP83).2; rw [e98] at h100
          obtain ⟨v101, e102⟩ : ∃ v, M82 9 2 = v := ⟨_, rfl⟩
          have h103 := (bf_9_2 hP83).1; rw [e102] at h103
          have h104 := (bf_9_2 hP83).2; rw [e102] at h104
          rw [show wix 4117 = 21 from rfl] at xh91
          refine wk_ifeq r153_89 ⟨by omega, by omega⟩ ?_ ?_
          · intro h105
            obtain rfl : x9_3 = v97 := by omega
            obtain rfl : x9_2 = v101 := by omega
            refine wk_al0 r153_97 (wk_c8 r153_98 (wk_cv2 r153_100 kc_6_175 rfl (m7175_6 _ M82 4118 x9_1 x9_3 x9_2 T hP83 (by decide) ((hQ84.at g_9_1 rfl).trans ((hQ60.at g_9_1 rfl).trans ((hQ36.at g_9_1 rfl).trans ((hQ12.at g_9_1 rfl).trans ex9_1)))) (by first | with_reducible assumption | omega) (by first | with_reducible assumption | omega) e98 (by first | with_reducible assumption | omega) (by first | with_reducible assumption | omega) e102 (by first | with_reducible assumption | omega) (by first | with_reducible assumption | omega) (by omega) (by omega) (by omega) (by first | assumption | omega | (unfold stepok; omega)) pr92 pr93) (cqI ?_)))
            rintro v118 M106 ⟨hP107, hQ108, h119, h120, h110, h111, h112, h113, h114, xh115, pr116, pr117⟩
            have hF109 : Fr fm_m7153_6v2 M0 M106 := hF85.tr hQ108 rfl
            obtain ⟨v121, e122⟩ : ∃ v, M106 9 3 = v := ⟨_, rfl⟩
            have h123 := (bf_9_3 hP107).1; rw [e122] at h123
            have h124 := (bf_9_3 hP107).2; rw [e122] at h124
            obtain ⟨v125, e126⟩ : ∃ v, M106 9 2 = v := ⟨_, rfl⟩
            have h127 := (bf_9_2 hP107).1; rw [e126] at h127
            have h128 := (bf_9_2 hP107).2; rw [e126] at h128
            rw [show wix 4118 = 19 from rfl] at xh115
            refine wk_ifeq r153_103 ⟨by omega, by omega⟩ ?_ ?_
            · intro h129
              obtain rfl : x9_3 = v121 := by omega
              obtain rfl : x9_2 = v125 := by omega
              refine wk_al0 r153_117 (wk_c1 r153_118 (wk_cv2 r153_119 kc_6_159 rfl (m7159_6 _ M106 1 x9_3 hP107 (by decide) (by decide) e122 (by first | with_reducible assumption | omega) (by first | with_reducible assumption | omega)) (cqI ?_)))
              rintro v138 M130 ⟨hP131, hQ132, h139, h140, h134, h135, h136, h137⟩
              have hF133 : Fr fm_m7153_6v2 M0 M130 := hF109.tr hQ132 rfl
              obtain ⟨v141, e142⟩ : ∃ v, M130 6 4 = v := ⟨_, rfl⟩
              have h143 := (bf_6_4 hP131).1; rw [e142] at h143
              have h144 := (bf_6_4 hP131).2; rw [e142] at h144
              obtain ⟨v145, e146⟩ : ∃ v, M130 6 5 = v := ⟨_, rfl⟩
              have h147 := (bf_6_5 hP131).1; rw [e146] at h147
              have h148 := (bf_6_5 hP131).2; rw [e146] at h148
              subst hQ; exact wk_zret r153_122 ⟨by omega, by omega⟩ (⟨rfl, _, rfl, hP131, hF133, by omega, by omega, by have := ((hQ132.at g_9_3 rfl).trans e122); omega, by have := ((hQ132.at g_9_3 rfl).trans e122); omega, by have := ((hQ132.at g_9_2 rfl).trans e126); omega, by have := ((hQ132.at g_9_2 rfl).trans e126); have := ((hQ132.at g_9_3 rfl).trans e122); omega, by have := e142; omega, by have := e146; omega, by omega, by omega, by omega, by omega, Or.inr ⟨by omega, by rw [e146, e142]; exact A_n xp0 (by omega) (by omega) (by omega) (by omega) (by omega) (by omega) (by omega) (by omega) (by omega) (by omega)⟩, (TXP_sm (Sm.fr hQ132 rfl) pr116), (TCP_sm (Sm.fr hQ132 rfl) pr117)⟩)
            · intro h149
              have r1 : Rch T x9_1 x6_3 c0 (stM T x9_1 (p1 + 1) v121) := A_m xp0 (by omega) (by omega) (by omega) (by omega)
              refine wk_al0 r153_106 (wk_al0 r153_107 (wk_cv1 r153_108 kc_6_173 rfl (m7173_6 _ M106 x9_1 v121 v125 x6_4 x6_5 T hP107 ((hQ108.at g_9_1 rfl).trans ((hQ84.at g_9_1 rfl).trans ((hQ60.at g_9_1 rfl).trans ((hQ36.at g_9_1 rfl).trans ((hQ12.at g_9_1 rfl).trans ex9_1))))) (by first | with_reducible assumption | omega) (by first | with_reducible assumption | omega) e122 (by first | with_reducible assumption | omega) (by first | with_reducible assumption | omega) e126 (by first | with_reducible assumption | omega) (by first | with_reducible assumption | omega) ((hQ108.at g_6_4 rfl).trans ((hQ84.at g_6_4 rfl).trans ((hQ60.at g_6_4 rfl).trans ((hQ36.at g_6_4 rfl).trans ((hQ12.at g_6_4 rfl).trans ex6_4))))) (by first | with_reducible assumption | omega) (by first | with_reducible assumption | omega) ((hQ108.at g_6_5 rfl).trans ((hQ84.at g_6_5 rfl).trans ((hQ60.at g_6_5 rfl).trans ((hQ36.at g_6_5 rfl).trans ((hQ12.at g_6_5 rfl).trans ex6_5))))) (by first | with_reducible assumption | omega) (by first | with_reducible assumption | omega) (by omega) (by omega) (by omega) pr116 pr117) (cqI ?_)))
              rintro v163 M150 ⟨hP151, hQ152, h164, h165, h154, h155, h156, h157, h158, h159, xh160, pr161, pr162⟩
              have hF153 : Fr fm_m7153_6v2 M0 M150 := hF109.tr hQ152 rfl
              obtain ⟨v166, e167⟩ : ∃ v, M150 9 3 = v := ⟨_, rfl⟩
              have h168 := (bf_9_3 hP151).1; rw [e167] at h168
              have h169 := (bf_9_3 hP151).2; rw [e167] at h169
              obtain ⟨v170, e171⟩ : ∃ v, M150 9 2 = v := ⟨_, rfl⟩
              have h172 := (bf_9_2 hP151).1; rw [e171] at h172
              have h173 := (bf_9_2 hP151).2; rw [e171] at h173
              obtain ⟨v174, e175⟩ : ∃ v, M150 6 4 = v := ⟨_, rfl⟩
              have h176 := (bf_6_4 hP151).1; rw [e175] at h176
              have h177 := (bf_6_4 hP151).2; rw [e175] at h177
              obtain ⟨v178, e179⟩ : ∃ v, M150 6 5 = v := ⟨_, rfl⟩
              have h180 := (bf_6_5 hP151).1; rw [e179] at h180
              have h181 := (bf_6_5 hP151).2; rw [e179] at h181
              refine wk_cv2 r153_111 kc_6_163 rfl (m7163_6 _ M150 v163 x9_1 v166 v170 v174 v178 x6_3 T c0 ((p1 + 1)) hP151 (by first | with_reducible assumption | omega) (by first | with_reducible assumption | omega) ((hQ152.at g_9_1 rfl).trans ((hQ108.at g_9_1 rfl).trans ((hQ84.at g_9_1 rfl).trans ((hQ60.at g_9_1 rfl).trans ((hQ36.at g_9_1 rfl).trans ((hQ12.at g_9_1 rfl).trans ex9_1)))))) (by first | with_reducible assumption | omega) (by first | with_reducible assumption | omega) e167 (by first | with_reducible assumption | omega) (by first | with_reducible assumption | omega) e171 (by first | with_reducible assumption | omega) (by first | with_reducible assumption | omega) e175 (by first | with_reducible assumption | omega) (by first | with_reducible assumption | omega) e179 (by first | with_reducible assumption | omega) (by first | with_reducible assumption | omega) ((hQ152.at g_6_3 rfl).trans ((hQ108.at g_6_3 rfl).trans ((hQ84.at g_6_3 rfl).trans ((hQ60.at g_6_3 rfl).trans ((hQ36.at g_6_3 rfl).trans ((hQ12.at g_6_3 rfl).trans ex6_3)))))) (by first | with_reducible assumption | omega) (by first | with_reducible assumption | omega) (by omega) (by omega) (by omega) (MX_mk r1 (by omega)) pr161 pr162) (cqI ?_)
              rintro v200 M182 ⟨hP183, hQ184, h201, h202, h186, h187, h188, h189, h190, h191, h192, h193, h194, h195, h196, xh197, pr198, pr199⟩
              have hF185 : Fr fm_m7153_6v2 M0 M182 := hF153.tr hQ184 rfl
              obtain ⟨v203, e204⟩ : ∃ v, M182 9 3 = v := ⟨_, rfl⟩
              have h205 := (bf_9_3 hP183).1; rw [e204] at h205
              have h206 := (bf_9_3 hP183).2; rw [e204] at h206
              obtain ⟨v207, e208⟩ : ∃ v, M182 9 2 = v := ⟨_, rfl⟩
              have h209 := (bf_9_2 hP183).1; rw [e208] at h209
              have h210 := (bf_9_2 hP183).2; rw [e208] at h210
              obtain ⟨v211, e212⟩ : ∃ v, M182 6 4 = v := ⟨_, rfl⟩
              have h213 := (bf_6_4 hP183).1; rw [e212] at h213
              have h214 := (bf_6_4 hP183).2; rw [e212] at h214
              obtain ⟨v215, e216⟩ : ∃ v, M182 6 5 = v := ⟨_, rfl⟩
              have h217 := (bf_6_5 hP183).1; rw [e216] at h217
              have h218 := (bf_6_5 hP183).2; rw [e216] at h218
              refine wk_goto r153_114 ?_
              subst hQ; exact wk_zret r153_122 ⟨by omega, by omega⟩ (⟨rfl, _, rfl, hP183, hF185, by omega, by omega, by have := e204; omega, by have := e204; omega, by have := e208; omega, by have := e208; have := e204; omega, by have := e212; omega, by have := e216; omega, by have := e212; omega, by have := e212; omega, by have := e216; omega, by have := e216; omega, by rcases (show v200 = 1 ∨ v200 = 0 by omega) with q9 | q9; (exact Or.inl ⟨q9, by rw [e204]; exact X_k (or_l xh197 (by omega)) (by omega)⟩); (exact Or.inr ⟨q9, by rw [e216, e212]; exact F_k (or_r xh197 (by omega)) (by omega) (by omega)⟩), pr198, pr199⟩)
          · intro h219
            have r1 : AX T x9_1 x6_3 c0 (p1 + 1) 99 v97 := A1 xp0 (by omega) (by omega) (by omega) (by omega) (by omega)
            refine wk_al0 r153_92 (wk_cv1 r153_93 kc_6_176 rfl (m7176_6 _ M82 x9_1 v97 v101 x6_4 x6_5 x6_3 T c0 ((p1 + 1)) hP83 ((hQ84.at g_9_1 rfl).trans ((hQ60.at g_9_1 rfl).trans ((hQ36.at g_9_1 rfl).trans ((hQ12.at g_9_1 rfl).trans ex9_1)))) (by first | with_reducible assumption | omega) (by first | with_reducible assumption | omega) e98 (by first | with_reducible assumption | omega) (by first | with_reducible assumption | omega) e102 (by first | with_reducible assumption | omega) (by first | with_reducible assumption | omega) ((hQ84.at g_6_4 rfl).trans ((hQ60.at g_6_4 rfl).trans ((hQ36.at g_6_4 rfl).trans ((hQ12.at g_6_4 rfl).trans ex6_4)))) (by first | with_reducible assumption | omega) (by first | with_reducible assumption | omega) ((hQ84.at g_6_5 rfl).trans ((hQ60.at g_6_5 rfl).trans ((hQ36.at g_6_5 rfl).trans ((hQ12.at g_6_5 rfl).trans ex6_5)))) (by first | with_reducible assumption | omega) (by first | with_reducible assumption | omega) ((hQ84.at g_6_3 rfl).trans ((hQ60.at g_6_3 rfl).trans ((hQ36.at g_6_3 rfl).trans ((hQ12.at g_6_3 rfl).trans ex6_3)))) (by first | with_reducible assumption | omega) (by first | with_reducible assumption | omega) (by omega) (by omega) (by omega) (r1) pr92 pr93) (cqI ?_))
            rintro v237 M220 ⟨hP221, hQ222, h238, h239, h224, h225, h226, h227, h228, h229, h230, h231, h232, h233, xh234, pr235, pr236⟩
            have hF223 : Fr fm_m7153_6v2 M0 M220 := hF85.tr hQ222 rfl
            obtain ⟨v240, e241⟩ : ∃ v, M220 9 3 = v := ⟨_, rfl⟩
            have h242 := (bf_9_3 hP221).1; rw [e241] at h242
            have h243 := (bf_9_3 hP221).2; rw [e241] at h243
            obtain ⟨v244, e245⟩ : ∃ v, M220 9 2 = v := ⟨_, rfl⟩
            have h246 := (bf_9_2 hP221).1; rw [e245] at h246
            have h247 := (bf_9_2 hP221).2; rw [e245] at h247
            obtain ⟨v248, e249⟩ : ∃ v, M220 6 4 = v := ⟨_, rfl⟩
            have h250 := (bf_6_4 hP221).1; rw [e249] at h250
            have h251 := (bf_6_4 hP221).2; rw [e249] at h251
            obtain ⟨v252, e253⟩ : ∃ v, M220 6 5 = v := ⟨_, rfl⟩
            have h254 := (bf_6_5 hP221).1; rw [e253] at h254
            have h255 := (bf_6_5 hP221).2; rw [e253] at h255
            subst hQ; exact wk_zret r153_96 ⟨by omega, by omega⟩ (⟨rfl, _, rfl, hP221, hF223, by omega, by omega, by have := e241; omega, by have := e241; omega, by have := e245; omega, by have := e245; have := e241; omega, by have := e249; omega, by have := e253; omega, by have := e249; omega, by have := e249; omega, by have := e253; omega, by have := e253; omega, by rcases (show v237 = 1 ∨ v237 = 0 by omega) with q9 | q9; (exact Or.inl ⟨q9, by rw [e241]; exact X_k (or_l xh234 (by omega)) (by omega)⟩); (exact Or.inr ⟨q9, by rw [e253, e249]; exact F_k (or_r xh234 (by omega)) (by omega) (by omega)⟩), pr235, pr236⟩)
        · intro h256
          have r1 : AX T x9_1 x6_3 c0 (p1 + 1) 1 v73 := A1 xp0 (by omega) (by omega) (by omega) (by omega) (by omega)
          refine wk_al0 r153_70 (wk_c2 r153_71 (wk_al0 r153_73 (wk_c1 r153_74 (wk_c1 r153_75 (wk_cv3 r153_76 kc_6_167 rfl (m7167_6 _ M58 0 1 x9_1 v73 v77 x6_4 x6_5 T hP59 (by decide) (by decide) (by decide) (by decide) ((hQ60.at g_9_1 rfl).trans ((hQ36.at g_9_1 rfl).trans ((hQ12.at g_9_1 rfl).trans ex9_1))) (by first | with_reducible assumption | omega) (by first | with_reducible assumption | omega) e74 (by first | with_reducible assumption | omega) (by first | with_reducible assumption | omega) e78 (by first | with_reducible assumption | omega) (by first | with_reducible assumption | omega) ((hQ60.at g_6_4 rfl).trans ((hQ36.at g_6_4 rfl).trans ((hQ12.at g_6_4 rfl).trans ex6_4))) (by first | with_reducible assumption | omega) (by first | with_reducible assumption | omega) ((hQ60.at g_6_5 rfl).trans ((hQ36.at g_6_5 rfl).trans ((hQ12.at g_6_5 rfl).trans ex6_5))) (by first | with_reducible assumption | omega) (by first | with_reducible assumption | omega) (by omega) (by omega) (by omega) pr68 pr69) (cqI ?_))))))
          rintro v271 M257 ⟨hP258, hQ259, h272, h273, h261, h262, h263, h264, h265, h266, h267, xh268, pr269, pr270⟩
          have hF260 : Fr fm_m7153_6v2 M0 M257 := hF61.tr hQ259 rfl
          obtain ⟨v274, e275⟩ : ∃ v, M257 9 3 = v := ⟨_, rfl⟩
          have h276 := (bf_9_3 hP258).1; rw [e275] at h276
          have h277 := (bf_9_3 hP258).2; rw [e275] at h277
          obtain ⟨v278, e279⟩ : ∃ v, M257 9 2 = v := ⟨_, rfl⟩
          have h280 := (bf_9_2 hP258).1; rw [e279] at h280
          have h281 := (bf_9_2 hP258).2; rw [e279] at h281
          obtain ⟨v282, e283⟩ : ∃ v, M257 6 4 = v := ⟨_, rfl⟩
          have h284 := (bf_6_4 hP258).1; rw [e283] at h284
          have h285 := (bf_6_4 hP258).2; rw [e283] at h285
          obtain ⟨v286, e287⟩ : ∃ v, M257 6 5 = v := ⟨_, rfl⟩
          have h288 := (bf_6_5 hP258).1; rw [e287] at h288
          have h289 := (bf_6_5 hP258).2; rw [e287] at h289
          refine wk_cv3 r153_79 kc_6_171 rfl (m7171_6 _ M257 46 v271 hP258 (by decide) (by decide) (by first | with_reducible assumption | omega) (by first | with_reducible assumption | omega)) (cqI ?_)
          rintro v295 M290 ⟨hP291, hQ292, h296, h297, xh294⟩
          have hF293 : Fr fm_m7153_6v2 M0 M290 := hF260.tr hQ292 rfl
          subst hQ; exact wk_zret r153_82 ⟨by omega, by omega⟩ (⟨rfl, _, rfl, hP291, hF293, by omega, by omega, by have := ((hQ292.at g_9_3 rfl).trans e275); omega, by have := ((hQ292.at g_9_3 rfl).trans e275); omega, by have := ((hQ292.at g_9_2 rfl).trans e279); omega, by have := ((hQ292.at g_9_2 rfl).trans e279); have := ((hQ292.at g_9_3 rfl).trans e275); omega, by have := ((hQ292.at g_6_4 rfl).trans e283); omega, by have := ((hQ292.at g_6_5 rfl).trans e287); omega, by have := ((hQ292.at g_6_4 rfl).trans e283); omega, by have := ((hQ292.at g_6_4 rfl).trans e283); omega, by have := ((hQ292.at g_6_5 rfl).trans e287); omega, by have := ((hQ292.at g_6_5 rfl).trans e287); omega, by rcases (show v295 = 1 ∨ v295 = 0 by omega) with q9 | q9; (exact Or.inl ⟨q9, by rw [((hQ292.at g_9_3 rfl).trans e275)]; exact AX_0 r1 (by omega) (by omega)⟩); (exact Or.inr ⟨q9, by rw [((hQ292.at g_6_5 rfl).trans e287), ((hQ292.at g_6_4 rfl).trans e283)]; exact AX_e r1 (by omega) (by omega) (by omega)⟩), (TXP_sm (Sm.fr hQ292 rfl) pr269), (TCP_sm (Sm.fr hQ292 rfl) pr270)⟩)
      · intro h298
        have r1 : AX T x9_1 x6_3 c0 (p1 + 1) 6 v49 := A1 xp0 (by omega) (by omega) (by omega) (by omega) (by omega)
        refine wk_al0 r153_47 (wk_c2 r153_48 (wk_al0 r153_50 (wk_c1 r153_51 (wk_c2 r153_52 (wk_cv3 r153_54 kc_6_167 rfl (m7167_6 _ M34 0 6 x9_1 v49 v53 x6_4 x6_5 T hP35 (by decide) (by decide) (by decide) (by decide) ((hQ36.at g_9_1 rfl).trans ((hQ12.at g_9_1 rfl).trans ex9_1)) (by first | with_reducible assumption | omega) (by first | with_reducible assumption | omega) e50 (by first | with_reducible assumption | omega) (by first | with_reducible assumption | omega) e54 (by first | with_reducible assumption | omega) (by first | with_reducible assumption | omega) ((hQ36.at g_6_4 rfl).trans ((hQ12.at g_6_4 rfl).trans ex6_4)) (by first | with_reducible assumption | omega) (by first | with_reducible assumption | omega) ((hQ36.at g_6_5 rfl).trans ((hQ12.at g_6_5 rfl).trans ex6_5)) (by first | with_reducible assumption | omega) (by first | with_reducible assumption | omega) (by omega) (by omega) (by omega) pr44 pr45) (cqI ?_))))))
        rintro v313 M299 ⟨hP300, hQ301, h314, h315, h303, h304, h305, h306, h307, h308, h309, xh310, pr311, pr312⟩
        have hF302 : Fr fm_m7153_6v2 M0 M299 := hF37.tr hQ301 rfl
        obtain ⟨v316, e317⟩ : ∃ v, M299 9 3 = v := ⟨_, rfl⟩
        have h318 := (bf_9_3 hP300).1; rw [e317] at h318
        have h319 := (bf_9_3 hP300).2; rw [e317] at h319
        obtain ⟨v320, e321⟩ : ∃ v, M299 9 2 = v := ⟨_, rfl⟩
        have h322 := (bf_9_2 hP300).1; rw [e321] at h322
        have h323 := (bf_9_2 hP300).2; rw [e321] at h323
        obtain ⟨v324, e325⟩ : ∃ v, M299 6 4 = v := ⟨_, rfl⟩
        have h326 := (bf_6_4 hP300).1; rw [e325] at h326
        have h327 := (bf_6_4 hP300).2; rw [e325] at h327
        obtain ⟨v328, e329⟩ : ∃ v, M299 6 5 = v := ⟨_, rfl⟩
        have h330 := (bf_6_5 hP300).1; rw [e329] at h330
        have h331 := (bf_6_5 hP300).2; rw [e329] at h331
        refine wk_cv3 r153_57 kc_6_171 rfl (m7171_6v1 _ M299 39 v313 hP300 (by decide) (by decide) (by first | with_reducible assumption | omega) (by first | with_reducible assumption | omega)) (cqI ?_)
        rintro v337 M332 ⟨hP333, hQ334, h338, h339, xh336⟩
        have hF335 : Fr fm_m7153_6v2 M0 M332 := hF302.tr hQ334 rfl
        subst hQ; exact wk_zret r153_60 ⟨by omega, by omega⟩ (⟨rfl, _, rfl, hP333, hF335, by omega, by omega, by have := ((hQ334.at g_9_3 rfl).trans e317); omega, by have := ((hQ334.at g_9_3 rfl).trans e317); omega, by have := ((hQ334.at g_9_2 rfl).trans e321); omega, by have := ((hQ334.at g_9_2 rfl).trans e321); have := ((hQ334.at g_9_3 rfl).trans e317); omega, by have := ((hQ334.at g_6_4 rfl).trans e325); omega, by have := ((hQ334.at g_6_5 rfl).trans e329); omega, by have := ((hQ334.at g_6_4 rfl).trans e325); omega, by have := ((hQ334.at g_6_4 rfl).trans e325); omega, by have := ((hQ334.at g_6_5 rfl).trans e329); omega, by have := ((hQ334.at g_6_5 rfl).trans e329); omega, by rcases (show v337 = 1 ∨ v337 = 0 by omega) with q9 | q9; (exact Or.inl ⟨q9, by rw [((hQ334.at g_9_3 rfl).trans e317)]; exact AX_0 r1 (by omega) (by omega)⟩); (exact Or.inr ⟨q9, by rw [((hQ334.at g_6_5 rfl).trans e329), ((hQ334.at g_6_4 rfl).trans e325)]; exact AX_e r1 (by omega) (by omega) (by omega)⟩), (TXP_sm (Sm.fr hQ334 rfl) pr311), (TCP_sm (Sm.fr hQ334 rfl) pr312)⟩)
    · intro h340
      have r1 : AX T x9_1 x6_3 c0 (p1 + 1) 3 v25 := A1 xp0 (by omega) (by omega) (by omega) (by omega) (by omega)
      refine wk_al0 r153_25 (wk_c2 r153_26 (wk_al0 r153_28 (wk_c1 r153_29 (wk_c1 r153_30 (wk_cv3 r153_31 kc_6_167 rfl (m7167_6 _ M10 0 3 x9_1 v25 v29 x6_4 x6_5 T hP11 (by decide) (by decide) (by decide) (by decide) ((hQ12.at g_9_1 rfl).trans ex9_1) (by first | with_reducible assumption | omega) (by first | with_reducible assumption | omega) e26 (by first | with_reducible assumption | omega) (by first | with_reducible assumption | omega) e30 (by first | with_reducible assumption | omega) (by first | with_reducible assumption | omega) ((hQ12.at g_6_4 rfl).trans ex6_4) (by first | with_reducible assumption | omega) (by first | with_reducible assumption | omega) ((hQ12.at g_6_5 rfl).trans ex6_5) (by first | with_reducible assumption | omega) (by first | with_reducible assumption | omega) (by omega) (by omega) (by omega) pr20 pr21) (cqI ?_))))))
      rintro v355 M341 ⟨hP342, hQ343, h356, h357, h345, h346, h347, h348, h349, h350, h351, xh352, pr353, pr354⟩
      have hF344 : Fr fm_m7153_6v2 M0 M341 := hF13.tr hQ343 rfl
      obtain ⟨v358, e359⟩ : ∃ v, M341 9 3 = v := ⟨_, rfl⟩
      have h360 := (bf_9_3 hP342).1; rw [e359] at h360
      have h361 := (bf_9_3 hP342).2; rw [e359] at h361
      obtain ⟨v362, e363⟩ : ∃ v, M341 9 2 = v := ⟨_, rfl⟩
      have h364 := (bf_9_2 hP342).1; rw [e363] at h364
      have h365 := (bf_9_2 hP342).2; rw [e363] at h365
      obtain ⟨v366, e367⟩ : ∃ v, M341 6 4 = v := ⟨_, rfl⟩
      have h368 := (bf_6_4 hP342).1; rw [e367] at h368
      have h369 := (bf_6_4 hP342).2; rw [e367] at h369
      obtain ⟨v370, e371⟩ : ∃ v, M341 6 5 = v := ⟨_, rfl⟩
      have h372 := (bf_6_5 hP342).1; rw [e371] at h372
      have h373 := (bf_6_5 hP342).2; rw [e371] at h373
      refine wk_cv3 r153_34 kc_6_171 rfl (m7171_6v2 _ M341 35 v355 hP342 (by decide) (by decide) (by first | with_reducible assumption | omega) (by first | with_reducible assumption | omega)) (cqI ?_)
      rintro v379 M374 ⟨hP375, hQ376, h380, h381, xh378⟩
      have hF377 : Fr fm_m7153_6v2 M0 M374 := hF344.tr hQ376 rfl
      subst hQ; exact wk_zret r153_37 ⟨by omega, by omega⟩ (⟨rfl, _, rfl, hP375, hF377, by omega, by omega, by have := ((hQ376.at g_9_3 rfl).trans e359); omega, by have := ((hQ376.at g_9_3 rfl).trans e359); omega, by have := ((hQ376.at g_9_2 rfl).trans e363); omega, by have := ((hQ376.at g_9_2 rfl).trans e363); have := ((hQ376.at g_9_3 rfl).trans e359); omega, by have := ((hQ376.at g_6_4 rfl).trans e367); omega, by have := ((hQ376.at g_6_5 rfl).trans e371); omega, by have := ((hQ376.at g_6_4 rfl).trans e367); omega, by have := ((hQ376.at g_6_4 rfl).trans e367); omega, by have := ((hQ376.at g_6_5 rfl).trans e371); omega, by have := ((hQ376.at g_6_5 rfl).trans e371); omega, by rcases (show v379 = 1 ∨ v379 = 0 by omega) with q9 | q9; (exact Or.inl ⟨q9, by rw [((hQ376.at g_9_3 rfl).trans e359)]; exact AX_0 r1 (by omega) (by omega)⟩); (exact Or.inr ⟨q9, by rw [((hQ376.at g_6_5 rfl).trans e371), ((hQ376.at g_6_4 rfl).trans e367)]; exact AX_e r1 (by omega) (by omega) (by omega)⟩), (TXP_sm (Sm.fr hQ376 rfl) pr353), (TCP_sm (Sm.fr hQ376 rfl) pr354)⟩)
  · intro h382
    refine wk_al0 r153_10 (wk_il1 r153_11 (wk_cv2 r153_12 kc_6_152 rfl (m7152_6v2 _ M0 p1 x9_1 x9_3 x9_2 x6_4 x6_5 x6_3 T c0 gk hP0 (by first | with_reducible assumption | omega) (by first | with_reducible assumption | omega) ex9_1 (by first | with_reducible assumption | omega) (by first | with_reducible assumption | omega) ex9_3 (by first | with_reducible assumption | omega) (by first | with_reducible assumption | omega) ex9_2 (by first | with_reducible assumption | omega) (by first | with_reducible assumption | omega) ex6_4 (by first | with_reducible assumption | omega) (by first | with_reducible assumption | omega) ex6_5 (by first | with_reducible assumption | omega) (by first | with_reducible assumption | omega) ex6_3 (by first | with_reducible assumption | omega) (by first | with_reducible assumption | omega) (by omega) (by omega) (by omega) (xp0) (by omega) pp_TX pp_TC) (cqI ?_)))
    rintro v400 M383 ⟨hP384, hQ385, h401, h402, h387, h388, h389, h390, h391, h392, h393, h394, h395, h396, xh397, pr398, pr399⟩
    have hF386 : Fr fm_m7153_6v2 M0 M383 := hF0.tr hQ385 rfl
    obtain ⟨v403, e404⟩ : ∃ v, M383 9 3 = v := ⟨_, rfl⟩
    have h405 := (bf_9_3 hP384).1; rw [e404] at h405
    have h406 := (bf_9_3 hP384).2; rw [e404] at h406
    obtain ⟨v407, e408⟩ : ∃ v, M383 9 2 = v := ⟨_, rfl⟩
    have h409 := (bf_9_2 hP384).1; rw [e408] at h409
    have h410 := (bf_9_2 hP384).2; rw [e408] at h410
    obtain ⟨v411, e412⟩ : ∃ v, M383 6 4 = v := ⟨_, rfl⟩
    have h413 := (bf_6_4 hP384).1; rw [e412] at h413
    have h414 := (bf_6_4 hP384).2; rw [e412] at h414
    obtain ⟨v415, e416⟩ : ∃ v, M383 6 5 = v := ⟨_, rfl⟩
    have h417 := (bf_6_5 hP384).1; rw [e416] at h417
    have h418 := (bf_6_5 hP384).2; rw [e416] at h418
    subst hQ; exact wk_zret r153_15 ⟨by omega, by omega⟩ (⟨rfl, _, rfl, hP384, hF386, by omega, by omega, by have := e404; omega, by have := e404; omega, by have := e408; omega, by have := e408; have := e404; omega, by have := e412; omega, by have := e416; omega, by have := e412; omega, by have := e412; omega, by have := e416; omega, by have := e416; omega, by rcases (show v400 = 1 ∨ v400 = 0 by omega) with q9 | q9; (exact Or.inl ⟨q9, by rw [e404]; exact X_k (or_l xh397 (by omega)) (by omega)⟩); (exact Or.inr ⟨q9, by rw [e416, e412]; exact F_k (or_r xh397 (by omega)) (by omega) (by omega)⟩), pr398, pr399⟩)
