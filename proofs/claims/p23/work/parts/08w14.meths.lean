/-! ===== written by program (wip/layer2/all.py): contracts of methods ===== -/
def fm_m125_739 : Nat := 43422033467363566617232949352591342330853698083819854567614165563105374896128
/-- IslandHallModel.seeksKnots -/
theorem m125_739 {B : eB} (d : Nat) (M0 : Mm) (hP0 : Pw M0)  : Ct B (d + 3) 125 [R 739] M0 (qV fun M => Pw M ∧ Fr fm_m125_739 M0 M) := by
  refine ct_of (d := d + 2) (k := 3) (L := [some (R 739), none, none, none]) rfl rfl rfl ?_
  have hF0 := Fr.rf fm_m125_739 M0
  generalize hQ : (qV fun M => Pw M ∧ Fr fm_m125_739 M0 M) = Q
  refine wk_c1 r125_0 (wk_is1 r125_1 rfl ?_)
  have c2_4199 : ∀ (k4199 : Nat) (M4030 : Mm) (v4027 : Int), (4096 - v4027).toNat = k4199 → Pw M4030 → Fr fm_m125_739 M0 M4030 → 0 ≤ v4027 → v4027 ≤ 4096 → Wp B (d + 2) 125 2 [some (R 739), some (I v4027), none, none] [] M4030 Q := by
    refine lp_ind ?_
    intro k4199 ih4199 M4030 v4027 hk4199 hP4031 hF4032 h4028 h4029
    refine wk_il1 r125_2 (wk_al0 r125_3 (wk_cv1 r125_4 kc_739_44 rfl (m44_739 _ M4030 hP4031) (cqI ?_)))
    rintro v4037 M4033 ⟨hP4034, hQ4035, h4038, h4039⟩
    obtain rfl := Fr.same hQ4035
    refine wk_icgt r125_7 ⟨by omega, by omega⟩ ⟨by omega, by omega⟩ ?_ ?_
    · intro h4040
      refine wk_c1 r125_23 (wk_is1 r125_24 rfl ?_)
      have c25_4193 : ∀ (k4193 : Nat) (M4044 : Mm) (v4041 : Int), (3000 - v4041).toNat = k4193 → Pw M4044 → Fr fm_m125_739 M0 M4044 → 0 ≤ v4041 → v4041 ≤ 3000 → Wp B (d + 2) 125 25 [some (R 739), some (I v4041), none, none] [] M4044 Q := by
        refine lp_ind ?_
        intro k4193 ih4193 M4044 v4041 hk4193 hP4045 hF4046 h4042 h4043
        refine wk_il1 r125_25 (wk_al0 r125_26 (wk_getfb r125_27 fd_739_7 (bf_739_7 hP4045) ?_))
        intro v4047 h4049 h4050 e4048
        refine wk_icge r125_30 ⟨by omega, by omega⟩ ⟨by omega, by omega⟩ ?_ ?_
        · intro h4051
          refine wk_al0 r125_54 (wk_cv1 r125_55 kc_739_131 rfl (m131_739 _ M4044 hP4045) (cqV ?_))
          rintro M4052 ⟨hP4053, hQ4054⟩
          have hF4055 : Fr fm_m125_739 M0 M4052 := hF4046.tr hQ4054 rfl
          refine wk_al0 r125_58 (wk_c1 r125_59 (wk_putfi81 r125_60 fd_739_58 (wk_nw g_739_58 rfl hP4053 hF4055 (uf_739_58 (by decide)) ?_)))
          intro M4056 hP4057 hF4058 e4059
          refine wk_c1 r125_63 (wk_is1 r125_64 rfl ?_)
          have c65_4175 : ∀ (k4175 : Nat) (M4063 : Mm) (v4060 : Int) (v4066 : Int), (4096 - v4060).toNat = k4175 → Pw M4063 → Fr fm_m125_739 M0 M4063 → M4063 739 58 = v4066 → M4063 739 7 = v4047 → 0 ≤ v4060 → v4060 ≤ 4096 → 0 ≤ v4066 → v4066 ≤ 4096 → 0 ≤ (-1) * v4066 + v4060 + 0 → Wp B (d + 2) 125 65 [some (R 739), some (I v4060), none, none] [] M4063 Q := by
            refine lp_ind ?_
            intro k4175 ih4175 M4063 v4060 v4066 hk4175 hP4064 hF4065 e4069 e4070 h4061 h4062 h4067 h4068 h4071
            refine wk_il1 r125_65 (wk_al0 r125_66 (wk_cv1 r125_67 kc_739_44 rfl (m44_739 _ M4063 hP4064) (cqI ?_)))
            rintro v4076 M4072 ⟨hP4073, hQ4074, h4077, h4078⟩
            obtain rfl := Fr.same hQ4074
            refine wk_icgt r125_70 ⟨by omega, by omega⟩ ⟨by omega, by omega⟩ ?_ ?_
            · intro h4079
              subst hQ; exact wk_ret r125_211 (⟨rfl, hP4064, hF4065⟩)
            · intro h4080
              refine wk_al0 r125_73 (wk_getfr r125_74 fd_739_57 (br_739_57 hP4064) (wk_il1 r125_77 (wk_ialdb r125_78 ar_762 ⟨by omega, by omega⟩ (fun q0 q1 => ba_762 hP4064 q0 q1) ?_)))
              intro v4081 h4083 h4084 e4082
              have c87_4174 : ∀ (v4087 : Int), 0 ≤ v4087 → v4087 ≤ 1 → Wp B (d + 2) 125 87 [some (R 739), some (I v4060), none, none] [I v4087] M4063 Q := by
                intro v4087 h4088 h4089
                refine wk_is2 r125_87 rfl (wk_c1 r125_88 (wk_is3 r125_89 rfl ?_))
                have c90_4173 : ∀ (k4173 : Nat) (v4090 : Int) (v4093 : Int), (12 - v4093).toNat = k4173 → 0 ≤ v4090 → v4090 ≤ 1 → 0 ≤ v4093 → v4093 ≤ 12 → 0 ≤ (-1) * v4090 + v4093 + 1 → Wp B (d + 2) 125 90 [some (R 739), some (I v4060), some (I v4090), some (I v4093)] [] M4063 Q := by
                  refine lp_ind ?_
                  intro k4173 ih4173 v4090 v4093 hk4173 h4091 h4092 h4094 h4095 h4096
                  refine wk_il3 r125_90 (wk_al0 r125_91 (wk_getfb r125_92 fd_739_15 (bf_739_15 hP4064) ?_))
                  intro v4097 h4099 h4100 e4098
                  refine wk_icge r125_95 ⟨by omega, by omega⟩ ⟨by omega, by omega⟩ ?_ ?_
                  · intro h4101
                    refine wk_il2 r125_137 ?_
                    refine wk_ifne r125_138 ⟨by omega, by omega⟩ ?_ ?_
                    · intro h4102
                      refine wk_al0 r125_144 (wk_getfi r125_145 fd_739_58 e4069 (wk_is3 r125_148 rfl ?_))
                      have c149_4147 : ∀ (k4147 : Nat) (M4106 : Mm) (v4103 : Int), (v4103 - 0).toNat = k4147 → Pw M4106 → Fr fm_m125_739 M0 M4106 → M4106 739 58 = v4066 → M4106 739 7 = v4047 → M4106 739 15 = v4097 → 0 ≤ v4103 → v4103 ≤ 4095 → Wp B (d + 2) 125 149 [some (R 739), some (I v4060), none, some (I v4103)] [] M4106 Q := by
                        refine lp_ind ?_
                        intro k4147 ih4147 M4106 v4103 hk4147 hP4107 hF4108 e4109 e4110 e4111 h4104 h4105
                        refine wk_il3 r125_149 ?_
                        refine wk_ifle r125_150 ⟨by omega, by omega⟩ ?_ ?_
                        · intro h4112
                          refine wk_al0 r125_188 (wk_getfr r125_189 fd_739_59 (br_739_59 hP4107) (wk_il3 r125_192 (wk_il1 r125_193 (wk_iast r125_194 ar_763 ⟨by omega, by omega⟩ (wk_nw (ga_763 _) rfl hP4107 hF4108 (ua_763 ⟨by omega, by omega⟩) ?_)))))
                          intro M4113 hP4114 hF4115 e4116
                          refine wk_al0 r125_195 (wk_dupr r125_196 (wk_getfi r125_197 fd_739_58 (mUp_no e4116 e4109 (Or.inl (by decide))) (wk_c1 r125_200 (wk_iadd r125_201 (wk_putfi81 r125_202 fd_739_58 (wk_nw g_739_58 rfl hP4114 hF4115 (uf_739_58 ⟨by omega, by omega⟩) ?_))))))
                          intro M4117 hP4118 hF4119 e4120
                          refine wk_inc1 r125_205 rfl (wk_goto r125_208 ?_)
                          exact wp_fg (le_s (le_s (le_s (le_n le_0)))) (ih4175 (4096 - (v4060 + 1)).toNat (by omega) M4117 (v4060 + 1) (v4066 + 1) rfl hP4118 hF4119 (mUp_at e4120) (mUp_no e4120 (mUp_no e4116 e4110 (Or.inl (by decide))) (Or.inr (by decide))) (by omega) (by omega) (by omega) (by omega) (by omega))
                        · intro h4121
                          refine wk_il1 r125_153 (wk_al0 r125_154 (wk_getfr r125_155 fd_739_59 (br_739_59 hP4107) (wk_il3 r125_158 (wk_c1 r125_159 (wk_isub r125_160 (wk_ialdb r125_161 ar_763 ⟨by omega, by omega⟩ (fun q0 q1 => ba_763 hP4107 q0 q1) ?_))))))
                          intro v4122 h4124 h4125 e4123
                          refine wk_cs102_2 r125_162 rfl (m80v8 _ M4106 v4060 v4122 hP4107 (by omega) (by omega) (by omega) (by omega)) (cqI ?_)
                          rintro v4130 M4126 ⟨hP4127, hQ4128, h4131, h4132⟩
                          obtain rfl := Fr.same hQ4128
                          refine wk_ifeq r125_165 ⟨by omega, by omega⟩ ?_ ?_
                          · intro h4133
                            refine wk_al0 r125_188 (wk_getfr r125_189 fd_739_59 (br_739_59 hP4107) (wk_il3 r125_192 (wk_il1 r125_193 (wk_iast r125_194 ar_763 ⟨by omega, by omega⟩ (wk_nw (ga_763 _) rfl hP4107 hF4108 (ua_763 ⟨by omega, by omega⟩) ?_)))))
                            intro M4134 hP4135 hF4136 e4137
                            refine wk_al0 r125_195 (wk_dupr r125_196 (wk_getfi r125_197 fd_739_58 (mUp_no e4137 e4109 (Or.inl (by decide))) (wk_c1 r125_200 (wk_iadd r125_201 (wk_putfi81 r125_202 fd_739_58 (wk_nw g_739_58 rfl hP4135 hF4136 (uf_739_58 ⟨by omega, by omega⟩) ?_))))))
                            intro M4138 hP4139 hF4140 e4141
                            refine wk_inc1 r125_205 rfl (wk_goto r125_208 ?_)
                            exact wp_fg (le_s (le_s (le_s (le_n le_0)))) (ih4175 (4096 - (v4060 + 1)).toNat (by omega) M4138 (v4060 + 1) (v4066 + 1) rfl hP4139 hF4140 (mUp_at e4141) (mUp_no e4141 (mUp_no e4137 e4110 (Or.inl (by decide))) (Or.inr (by decide))) (by omega) (by omega) (by omega) (by omega) (by omega))
                          · intro h4142
                            refine wk_al0 r125_168 (wk_getfr r125_169 fd_739_59 (br_739_59 hP4107) (wk_il3 r125_172 (wk_al0 r125_173 (wk_getfr r125_174 fd_739_59 (br_739_59 hP4107) (wk_il3 r125_177 (wk_c1 r125_178 (wk_isub r125_179 (wk_iald r125_180 ar_763 ⟨by omega, by omega⟩ e4123 (wk_iast r125_181 ar_763 ⟨by omega, by omega⟩ (wk_nw (ga_763 _) rfl hP4107 hF4108 (ua_763 ⟨by omega, by omega⟩) ?_))))))))))
                            intro M4143 hP4144 hF4145 e4146
                            refine wk_inc3 r125_182 rfl (wk_goto r125_185 ?_)
                            exact wp_fg (le_s (le_s (le_s (le_s le_0)))) (ih4147 ((v4103 + (-1)) - 0).toNat (by omega) M4143 (v4103 + (-1)) rfl hP4144 hF4145 (mUp_no e4146 e4109 (Or.inl (by decide))) (mUp_no e4146 e4110 (Or.inl (by decide))) (mUp_no e4146 e4111 (Or.inl (by decide))) (by omega) (by omega))
                      exact wp_fg (le_s (le_s (le_n (le_s le_0)))) (c149_4147 _ M4063 v4066 rfl hP4064 hF4065 e4069 e4070 e4098 (by omega) (by omega))
                    · intro h4148
                      refine wk_goto r125_141 (wk_inc1 r125_205 rfl (wk_goto r125_208 ?_))
                      exact wp_fg (le_s (le_s (le_n (le_n le_0)))) (ih4175 (4096 - (v4060 + 1)).toNat (by omega) M4063 (v4060 + 1) v4066 rfl hP4064 hF4065 e4069 e4070 (by omega) (by omega) (by omega) (by omega) (by omega))
                  · intro h4149
                    refine wk_il2 r125_98 ?_
                    refine wk_ifeq r125_99 ⟨by omega, by omega⟩ ?_ ?_
                    · intro h4150
                      refine wk_c1 r125_129 (wk_is2 r125_130 rfl (wk_inc3 r125_131 rfl (wk_goto r125_134 ?_)))
                      exact wp_fg (le_s (le_s (le_s (le_s le_0)))) (ih4173 (12 - (v4093 + 1)).toNat (by omega) 0 (v4093 + 1) rfl (by omega) (by omega) (by omega) (by omega) (by omega))
                    · intro h4151
                      refine wk_il1 r125_102 (wk_il3 r125_103 (wk_shrb r125_104 ⟨by omega, by omega⟩ ⟨by omega, by omega⟩ ?_))
                      intro v4152 h4153 h4154 h4155
                      refine wk_c1 r125_105 (wk_iandc 1 2 r125_106 ⟨rfl, by decide⟩ rfl ?_)
                      refine wk_ifeq r125_107 ⟨by omega, by omega⟩ ?_ ?_
                      · intro h4157
                        refine wk_c1 r125_125 (wk_goto r125_126 (wk_is2 r125_130 rfl (wk_inc3 r125_131 rfl (wk_goto r125_134 ?_))))
                        exact wp_fg (le_s (le_s (le_s (le_s le_0)))) (ih4173 (12 - (v4093 + 1)).toNat (by omega) 1 (v4093 + 1) rfl (by omega) (by omega) (by omega) (by omega) (by omega))
                      · intro h4158
                        refine wk_al0 r125_110 (wk_getfr r125_111 fd_739_57 (br_739_57 hP4064) (wk_il1 r125_114 (wk_c1 r125_115 (wk_il3 r125_116 (wk_shl1 11 2048 r125_117 ⟨by omega, by omega⟩ ⟨pwl_11, by decide⟩ ?_)))))
                        intro v4159 h4160 h4161 h4162
                        refine wk_c1 r125_118 (wk_inot r125_119 (wk_iandl r125_120 ⟨by omega, by omega⟩ ?_))
                        intro v4163 h4164 h4165 h4166
                        refine wk_ialdb r125_121 ar_762 ⟨by omega, by omega⟩ (fun q0 q1 => ba_762 hP4064 q0 q1) ?_
                        intro v4167 h4169 h4170 e4168
                        refine wk_ifle r125_122 ⟨by omega, by omega⟩ ?_ ?_
                        · intro h4171
                          refine wk_c1 r125_129 (wk_is2 r125_130 rfl (wk_inc3 r125_131 rfl (wk_goto r125_134 ?_)))
                          exact wp_fg (le_s (le_s (le_s (le_s le_0)))) (ih4173 (12 - (v4093 + 1)).toNat (by omega) 0 (v4093 + 1) rfl (by omega) (by omega) (by omega) (by omega) (by omega))
                        · intro h4172
                          refine wk_c1 r125_125 (wk_goto r125_126 (wk_is2 r125_130 rfl (wk_inc3 r125_131 rfl (wk_goto r125_134 ?_))))
                          exact wp_fg (le_s (le_s (le_s (le_s le_0)))) (ih4173 (12 - (v4093 + 1)).toNat (by omega) 1 (v4093 + 1) rfl (by omega) (by omega) (by omega) (by omega) (by omega))
                exact wp_fg (le_s (le_s (le_s (le_s le_0)))) (c90_4173 _ v4087 0 rfl (by omega) (by omega) (by omega) (by omega) (by omega))
              refine wk_ifne r125_79 ⟨by omega, by omega⟩ ?_ ?_
              · intro h4085
                refine wk_c1 r125_86 ?_
                exact wp_fg (le_s (le_s (le_s (le_s le_0)))) (c87_4174 0 (by omega) (by omega))
              · intro h4086
                refine wk_c1 r125_82 (wk_goto r125_83 ?_)
                exact wp_fg (le_s (le_s (le_s (le_s le_0)))) (c87_4174 1 (by omega) (by omega))
          exact wp_fg (le_s (le_s (le_s (le_s le_0)))) (c65_4175 _ M4056 0 0 rfl hP4057 hF4058 (mUp_at e4059) (mUp_no e4059 ((hQ4054.at g_739_7 rfl).trans e4048) (Or.inr (by decide))) (by omega) (by omega) (by omega) (by omega) (by omega))
        · intro h4176
          refine wk_al0 r125_33 (wk_getfr r125_34 fd_739_57 (br_739_57 hP4045) (wk_al0 r125_37 (wk_getfr r125_38 fd_739_20 (br_739_20 hP4045) (wk_il1 r125_41 (wk_ialdb r125_42 ar_752 ⟨by omega, by omega⟩ (fun q0 q1 => ba_752 hP4045 q0 q1) ?_)))))
          intro v4177 h4179 h4180 e4178
          refine wk_dup2 r125_43 (wk_ialdb r125_44 ar_762 ⟨by omega, by omega⟩ (fun q0 q1 => ba_762 hP4045 q0 q1) ?_)
          intro v4181 h4183 h4184 e4182
          refine wk_c1 r125_45 (wk_iadd r125_46 (wk_wrap ?_))
          intro v4185 h4186 h4187 h4188
          refine wk_iast r125_47 ar_762 ⟨by omega, by omega⟩ (wk_nw (ga_762 _) rfl hP4045 hF4046 (ua_762 ⟨by omega, by omega⟩) ?_)
          intro M4189 hP4190 hF4191 e4192
          refine wk_inc1 r125_48 rfl (wk_goto r125_51 ?_)
          exact wp_fg (le_s (le_s (le_s (le_s le_0)))) (ih4193 (3000 - (v4041 + 1)).toNat (by omega) M4189 (v4041 + 1) rfl hP4190 hF4191 (by omega) (by omega))
      exact wp_fg (le_s (le_s (le_s (le_s le_0)))) (c25_4193 _ M4030 0 rfl hP4031 hF4032 (by omega) (by omega))
    · intro h4194
      refine wk_al0 r125_10 (wk_getfr r125_11 fd_739_57 (br_739_57 hP4031) (wk_il1 r125_14 (wk_c1 r125_15 (wk_iast r125_16 ar_762 ⟨by omega, by omega⟩ (wk_nw (ga_762 _) rfl hP4031 hF4032 (ua_762 (by decide)) ?_)))))
      intro M4195 hP4196 hF4197 e4198
      refine wk_inc1 r125_17 rfl (wk_goto r125_20 ?_)
      exact wp_fg (le_s (le_s (le_s (le_s le_0)))) (ih4199 (4096 - (v4027 + 1)).toNat (by omega) M4195 (v4027 + 1) rfl hP4196 hF4197 (by omega) (by omega))
  exact wp_fg (le_s (le_s (le_s (le_s le_0)))) (c2_4199 _ M0 0 rfl hP0 hF0 (by omega) (by omega))
def fm_m96_739 : Nat := 43422033467363566617232949364283355429500921429449333229344429720352835239936
/-- IslandHallModel.knots -/
theorem m96_739 {B : eB} (d : Nat) (M0 : Mm) (hP0 : Pw M0)  : Ct B (d + 4) 96 [R 739] M0 (qI fun z M => Pw M ∧ Fr fm_m96_739 M0 M ∧ 0 ≤ z ∧ z ≤ 4096) := by
  refine ct_of (d := d + 3) (k := 0) (L := [some (R 739)]) rfl rfl rfl ?_
  have hF0 := Fr.rf fm_m96_739 M0
  generalize hQ : (qI fun z M => Pw M ∧ Fr fm_m96_739 M0 M ∧ 0 ≤ z ∧ z ≤ 4096) = Q
  refine wk_al0 r96_0 (wk_c1 r96_1 (wk_putfi81 r96_2 fd_739_0 (wk_nw g_739_0 rfl hP0 hF0 (uf_739_0 (by decide)) ?_)))
  intro M1 hP2 hF3 e4
  refine wk_al0 r96_5 (wk_cv1 r96_6 kc_739_125 rfl (m125_739 _ M1 hP2) (cqV ?_))
  rintro M5 ⟨hP6, hQ7⟩
  have hF8 : Fr fm_m96_739 M0 M5 := hF3.tr hQ7 rfl
  refine wk_al0 r96_9 (wk_getfb r96_10 fd_739_58 (bf_739_58 hP6) ?_)
  intro v9 h11 h12 e10
  subst hQ; exact wk_iret r96_13 (⟨rfl, _, rfl, hP6, hF8, by omega, by omega⟩)
def fm_m95_739 : Nat := 43422033467363566617232949364283355429500921429449333229344429720352835239936
/-- IslandHallModel.knot -/
theorem m95_739 {B : eB} (d : Nat) (M0 : Mm) (p1 : Int) (hP0 : Pw M0) (l1 : (-2147483648) ≤ p1) (u1 : p1 ≤ 2147483647) : Ct B (d + 4) 95 [R 739, I p1] M0 (qI fun z M => Pw M ∧ Fr fm_m95_739 M0 M ∧ 0 ≤ z ∧ z ≤ 4095) := by
  refine ct_of (d := d + 3) (k := 0) (L := [some (R 739), some (I p1)]) rfl rfl rfl ?_
  have hF0 := Fr.rf fm_m95_739 M0
  generalize hQ : (qI fun z M => Pw M ∧ Fr fm_m95_739 M0 M ∧ 0 ≤ z ∧ z ≤ 4095) = Q
  refine wk_al0 r95_0 (wk_c1 r95_1 (wk_putfi81 r95_2 fd_739_0 (wk_nw g_739_0 rfl hP0 hF0 (uf_739_0 (by decide)) ?_)))
  intro M1 hP2 hF3 e4
  refine wk_al0 r95_5 (wk_cv1 r95_6 kc_739_125 rfl (m125_739 _ M1 hP2) (cqV ?_))
  rintro M5 ⟨hP6, hQ7⟩
  have hF8 : Fr fm_m95_739 M0 M5 := hF3.tr hQ7 rfl
  refine wk_al0 r95_9 (wk_il1 r95_10 ?_)
  refine wk_iflt r95_11 ⟨by omega, by omega⟩ ?_ ?_
  · intro h9
    refine wk_c1 r95_26 (wk_c1 r95_27 (wk_cv3 r95_28 kc_739_123 rfl (m123_739 _ M5 0 1 hP6 (by decide) (by decide) (by decide) (by decide)) (cqI ?_)))
    rintro v15 M10 ⟨hP11, hQ12, h16, h17, h14⟩
    have hF13 : Fr fm_m95_739 M0 M10 := hF8.tr hQ12 rfl
    refine wk_ifeq r95_31 ⟨by omega, by omega⟩ ?_ ?_
    · intro h18
      refine wk_c1 r95_43 ?_
      subst hQ; exact wk_iret r95_44 (⟨rfl, _, rfl, hP11, hF13, by omega, by omega⟩)
    · intro h19
      exfalso
      omega
  · intro h20
    refine wk_il1 r95_14 (wk_al0 r95_15 (wk_getfb r95_16 fd_739_58 (bf_739_58 hP6) ?_))
    intro v21 h23 h24 e22
    refine wk_icge r95_19 ⟨by omega, by omega⟩ ⟨by omega, by omega⟩ ?_ ?_
    · intro h25
      refine wk_c1 r95_26 (wk_c1 r95_27 (wk_cv3 r95_28 kc_739_123 rfl (m123_739 _ M5 0 1 hP6 (by decide) (by decide) (by decide) (by decide)) (cqI ?_)))
      rintro v31 M26 ⟨hP27, hQ28, h32, h33, h30⟩
      have hF29 : Fr fm_m95_739 M0 M26 := hF8.tr hQ28 rfl
      refine wk_ifeq r95_31 ⟨by omega, by omega⟩ ?_ ?_
      · intro h34
        refine wk_c1 r95_43 ?_
        subst hQ; exact wk_iret r95_44 (⟨rfl, _, rfl, hP27, hF29, by omega, by omega⟩)
      · intro h35
        exfalso
        omega
    · intro h36
      refine wk_c1 r95_22 (wk_goto r95_23 (wk_c1 r95_27 (wk_cv3 r95_28 kc_739_123 rfl (m123_739 _ M5 1 1 hP6 (by decide) (by decide) (by decide) (by decide)) (cqI ?_))))
      rintro v42 M37 ⟨hP38, hQ39, h43, h44, h41⟩
      have hF40 : Fr fm_m95_739 M0 M37 := hF8.tr hQ39 rfl
      refine wk_ifeq r95_31 ⟨by omega, by omega⟩ ?_ ?_
      · intro h45
        refine wk_c1 r95_43 ?_
        subst hQ; exact wk_iret r95_44 (⟨rfl, _, rfl, hP38, hF40, by omega, by omega⟩)
      · intro h46
        refine wk_al0 r95_34 (wk_getfr r95_35 fd_739_59 (br_739_59 hP38) (wk_il1 r95_38 (wk_ialdb r95_39 ar_763 ⟨by omega, by omega⟩ (fun q0 q1 => ba_763 hP38 q0 q1) ?_)))
        intro v47 h49 h50 e48
        refine wk_goto r95_40 ?_
        subst hQ; exact wk_iret r95_44 (⟨rfl, _, rfl, hP38, hF40, by omega, by omega⟩)
def fm_m72_739 : Nat := 11692013098647223345629478661730264157247460343808
/-- IslandHallModel.first -/
theorem m72_739 {B : eB} (d : Nat) (M0 : Mm) (hP0 : Pw M0)  : Ct B (d + 1) 72 [R 739] M0 (qI fun z M => Pw M ∧ Fr fm_m72_739 M0 M ∧ (-1) ≤ z ∧ z ≤ 9) := by
  refine ct_of (d := d + 0) (k := 0) (L := [some (R 739)]) rfl rfl rfl ?_
  have hF0 := Fr.rf fm_m72_739 M0
  generalize hQ : (qI fun z M => Pw M ∧ Fr fm_m72_739 M0 M ∧ (-1) ≤ z ∧ z ≤ 9) = Q
  refine wk_al0 r72_0 (wk_c1 r72_1 (wk_putfi81 r72_2 fd_739_0 (wk_nw g_739_0 rfl hP0 hF0 (uf_739_0 (by decide)) ?_)))
  intro M1 hP2 hF3 e4
  refine wk_al0 r72_5 (wk_getfb r72_6 fd_739_64 (bf_739_64 hP2) ?_)
  intro v5 h7 h8 e6
  subst hQ; exact wk_iret r72_9 (⟨rfl, _, rfl, hP2, hF3, by omega, by omega⟩)
def fm_m105_739 : Nat := 11692013098647223345629478661730264157247460343808
/-- IslandHallModel.line -/
theorem m105_739 {B : eB} (d : Nat) (M0 : Mm) (p1 : Int) (hP0 : Pw M0) (l1 : (-2147483648) ≤ p1) (u1 : p1 ≤ 2147483647) : Ct B (d + 2) 105 [R 739, I p1] M0 (qI fun z M => Pw M ∧ Fr fm_m105_739 M0 M ∧ 0 ≤ z ∧ z ≤ 209) := by
  refine ct_of (d := d + 1) (k := 0) (L := [some (R 739), some (I p1)]) rfl rfl rfl ?_
  have hF0 := Fr.rf fm_m105_739 M0
  generalize hQ : (qI fun z M => Pw M ∧ Fr fm_m105_739 M0 M ∧ 0 ≤ z ∧ z ≤ 209) = Q
  refine wk_al0 r105_0 (wk_c1 r105_1 (wk_putfi81 r105_2 fd_739_0 (wk_nw g_739_0 rfl hP0 hF0 (uf_739_0 (by decide)) ?_)))
  intro M1 hP2 hF3 e4
  refine wk_al0 r105_5 (wk_il1 r105_6 ?_)
  refine wk_iflt r105_7 ⟨by omega, by omega⟩ ?_ ?_
  · intro h5
    refine wk_c1 r105_22 (wk_c1 r105_23 (wk_cv3 r105_24 kc_739_123 rfl (m123_739 _ M1 0 1 hP2 (by decide) (by decide) (by decide) (by decide)) (cqI ?_)))
    rintro v11 M6 ⟨hP7, hQ8, h12, h13, h10⟩
    have hF9 : Fr fm_m105_739 M0 M6 := hF3.tr hQ8 rfl
    refine wk_ifeq r105_27 ⟨by omega, by omega⟩ ?_ ?_
    · intro h14
      refine wk_c1 r105_39 ?_
      subst hQ; exact wk_iret r105_40 (⟨rfl, _, rfl, hP7, hF9, by omega, by omega⟩)
    · intro h15
      exfalso
      omega
  · intro h16
    refine wk_il1 r105_10 (wk_al0 r105_11 (wk_getfb r105_12 fd_739_65 (bf_739_65 hP2) ?_))
    intro v17 h19 h20 e18
    refine wk_icge r105_15 ⟨by omega, by omega⟩ ⟨by omega, by omega⟩ ?_ ?_
    · intro h21
      refine wk_c1 r105_22 (wk_c1 r105_23 (wk_cv3 r105_24 kc_739_123 rfl (m123_739 _ M1 0 1 hP2 (by decide) (by decide) (by decide) (by decide)) (cqI ?_)))
      rintro v27 M22 ⟨hP23, hQ24, h28, h29, h26⟩
      have hF25 : Fr fm_m105_739 M0 M22 := hF3.tr hQ24 rfl
      refine wk_ifeq r105_27 ⟨by omega, by omega⟩ ?_ ?_
      · intro h30
        refine wk_c1 r105_39 ?_
        subst hQ; exact wk_iret r105_40 (⟨rfl, _, rfl, hP23, hF25, by omega, by omega⟩)
      · intro h31
        exfalso
        omega
    · intro h32
      refine wk_c1 r105_18 (wk_goto r105_19 (wk_c1 r105_23 (wk_cv3 r105_24 kc_739_123 rfl (m123_739 _ M1 1 1 hP2 (by decide) (by decide) (by decide) (by decide)) (cqI ?_))))
      rintro v38 M33 ⟨hP34, hQ35, h39, h40, h37⟩
      have hF36 : Fr fm_m105_739 M0 M33 := hF3.tr hQ35 rfl
      refine wk_ifeq r105_27 ⟨by omega, by omega⟩ ?_ ?_
      · intro h41
        refine wk_c1 r105_39 ?_
        subst hQ; exact wk_iret r105_40 (⟨rfl, _, rfl, hP34, hF36, by omega, by omega⟩)
      · intro h42
        refine wk_al0 r105_30 (wk_getfr r105_31 fd_739_66 (br_739_66 hP34) (wk_il1 r105_34 (wk_ialdb r105_35 ar_767 ⟨by omega, by omega⟩ (fun q0 q1 => ba_767 hP34 q0 q1) ?_)))
        intro v43 h45 h46 e44
        refine wk_goto r105_36 ?_
        subst hQ; exact wk_iret r105_40 (⟨rfl, _, rfl, hP34, hF36, by omega, by omega⟩)
