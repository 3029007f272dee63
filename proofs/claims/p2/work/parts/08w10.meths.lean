/-! ===== written by program (wip/layer2/all.py): contracts of methods ===== -/
def fm_m213_613v12 : Nat := 9134385233339535501830193694306314517725965189120
/-- IslandHall$Riddler.secondBehind -/
theorem m213_613v12 {B : eB} (d : Nat) (M0 : Mm) (p1 : Int) (p2 : Int) (hP0 : Pw M0) (l1 : 0 ≤ p1) (u1 : p1 ≤ 6) (l2 : 0 ≤ p2) (u2 : p2 ≤ 29) : Ct B (d + 6) 213 [R 613, I p1, I p2] M0 (qI fun z M => Pw M ∧ Fr fm_m213_613v12 M0 M ∧ (-1) ≤ z ∧ z ≤ 209) := by
  refine ct_of (d := d + 5) (k := 3) (L := [some (R 613), some (I p1), some (I p2), none, none, none]) rfl rfl rfl ?_
  have hF0 := Fr.rf fm_m213_613v12 M0
  generalize hQ : (qI fun z M => Pw M ∧ Fr fm_m213_613v12 M0 M ∧ (-1) ≤ z ∧ z ≤ 209) = Q
  refine wk_al0 r213_0 (wk_getfr r213_1 fd_613_0 (br_613_0 hP0) (wk_getfr r213_4 fd_174_0 (br_174_0 hP0) (wk_as3 r213_7 rfl (wk_al3 r213_8 (wk_getfr r213_9 fd_176_0 (br_176_0 hP0) (wk_c2 r213_12 (wk_al0 r213_14 (wk_getfb r213_15 fd_613_7 (bf_613_7 hP0) ?_))))))))
  intro v1 h3 h4 e2
  refine wk_iadd r213_18 (wk_raldb r213_19 ar_182 ⟨by omega, by omega⟩ (fun q0 q1 => ba_182 hP0 q0 q1) (wk_as4 r213_20 rfl (wk_al0 r213_22 (wk_getfr r213_23 fd_613_2 (br_613_2 hP0) (wk_il2 r213_26 (wk_raldb r213_27 ar_615 ⟨by omega, by omega⟩ (fun q0 q1 => ba_615 hP0 q0 q1) (wk_c1 r213_28 (wk_al4 r213_29 (wk_c1 r213_31 (wk_al0 r213_32 (wk_getfr r213_33 fd_613_0 (br_613_0 hP0) (wk_getfi r213_36 fd_174_1 (br_174_1 hP0) (wk_copy110 r213_39 (arF_616 (by omega) (by omega)) (arF_183 (by omega) (by omega)) ⟨by decide, by decide, by decide, by omega, by omega, by omega⟩ rfl (wk_nc (fun i => by rw [(gr_183 (by omega) (by omega) i)]; rfl) hP0 hF0 (fun i h0 h1 => by have := baF_616 hP0 (a := (616 + p2)) (by omega) (by omega) h0 (by omega); exact (uaF_183 (by omega) (by omega) ⟨by omega, by omega⟩)) ?_))))))))))))))
  intro M5 hP6 hF7 e8
  refine wk_al3 r213_42 (wk_il1 r213_43 (wk_cv2 r213_44 kc_176_200 rfl (m200_176 _ M5 p1 hP6 (by omega) (by omega)) (cqV ?_)))
  rintro M9 ⟨hP10, hQ11⟩
  have hF12 : Fr fm_m213_613v12 M0 M9 := hF7.tr hQ11 rfl
  refine wk_al0 r213_47 (wk_il1 r213_48 (wk_cv2 r213_49 kc_613_210 rfl (m210_613 _ M9 p1 hP10 (by omega) (by omega)) (cqV ?_)))
  rintro M13 ⟨hP14, hQ15⟩
  have hF16 : Fr fm_m213_613v12 M0 M13 := hF12.tr hQ15 rfl
  refine wk_al0 r213_52 (wk_il1 r213_53 (wk_il2 r213_54 (wk_cv3 r213_55 kc_613_211 rfl (m211_613v12 _ M13 p1 p2 hP14 (by omega) (by omega) (by omega) (by omega)) (cqI ?_))))
  rintro v21 M17 ⟨hP18, hQ19, h22, h23⟩
  have hF20 : Fr fm_m213_613v12 M0 M17 := hF16.tr hQ19 rfl
  refine wk_is5 r213_58 rfl (wk_al3 r213_60 (wk_il1 r213_61 (wk_cv2 r213_62 kc_176_200 rfl (m200_176 _ M17 p1 hP18 (by omega) (by omega)) (cqV ?_))))
  rintro M24 ⟨hP25, hQ26⟩
  have hF27 : Fr fm_m213_613v12 M0 M24 := hF20.tr hQ26 rfl
  refine wk_al4 r213_65 (wk_c6 r213_67 (wk_cs102_2 r213_68 rfl (ct_fl (arF_183 (by omega) (by omega))) (cqV ?_)))
  intro M28 e29
  have hP30 : Pw M28 := by rw [e29]; exact hP25.fil (fun i => (uaF_183 (by omega) (by omega) ⟨by omega, by omega⟩))
  have hF31 : Fr fm_m213_613v12 M0 M28 := by rw [e29]; exact hF27.fil (fun i => by rw [(gr_183 (by omega) (by omega) i)]; rfl)
  refine wk_il5 r213_71 ?_
  subst hQ; exact wk_iret r213_73 (⟨rfl, _, rfl, hP30, hF31, by omega, by omega⟩)
def fm_m212_613 : Nat := 11456517229372132228312024966600643104620693946368
/-- IslandHall$Riddler.search -/
theorem m212_613 {B : eB} (d : Nat) (M0 : Mm) (p1 : Int) (p2 : Int) (hP0 : Pw M0) (l1 : 0 ≤ p1) (u1 : p1 ≤ 30) (l2 : 0 ≤ p2) (u2 : p2 ≤ 10) : Ct B (d + 7) 212 [R 613, I p1, I p2] M0 (qI fun z M => Pw M ∧ Fr fm_m212_613 M0 M ∧ (-1) ≤ z ∧ z ≤ 2) := by
  refine ct_of (d := d + 6) (k := 3) (L := [some (R 613), some (I p1), some (I p2), none, none, none]) rfl rfl rfl ?_
  have hF0 := Fr.rf fm_m212_613 M0
  generalize hQ : (qI fun z M => Pw M ∧ Fr fm_m212_613 M0 M ∧ (-1) ≤ z ∧ z ≤ 2) = Q
  refine wk_al0 r212_0 (wk_il1 r212_1 (wk_putfi81 r212_2 fd_613_6 (wk_nw g_613_6 rfl hP0 hF0 (uf_613_6 ⟨by omega, by omega⟩) ?_)))
  intro M1 hP2 hF3 e4
  refine wk_al0 r212_5 (wk_il2 r212_6 (wk_putfi81 r212_7 fd_613_7 (wk_nw g_613_7 rfl hP2 hF3 (uf_613_7 ⟨by omega, by omega⟩) ?_)))
  intro M5 hP6 hF7 e8
  refine wk_c1 r212_10 (wk_is3 r212_11 rfl ?_)
  have c12_1758 : ∀ (k1758 : Nat) (M1653 : Mm) (v1650 : Int), (30 - v1650).toNat = k1758 → Pw M1653 → Fr fm_m212_613 M0 M1653 → M1653 613 6 = p1 → M1653 613 7 = p2 → 0 ≤ v1650 → v1650 ≤ 30 → Wp B (d + 6) 212 12 [some (R 613), none, none, some (I v1650), none, none] [] M1653 Q := by
    refine lp_ind ?_
    intro k1758 ih1758 M1653 v1650 hk1758 hP1654 hF1655 e1656 e1657 h1651 h1652
    refine wk_il3 r212_12 (wk_al0 r212_13 (wk_getfi r212_14 fd_613_6 e1656 ?_))
    refine wk_icge r212_17 ⟨by omega, by omega⟩ ⟨by omega, by omega⟩ ?_ ?_
    · intro h1658
      refine wk_al0 r212_48 (wk_cv1 r212_49 kc_613_214 rfl (m214_613 _ M1653 hP1654) (cqI ?_))
      rintro v1663 M1659 ⟨hP1660, hQ1661, h1664, h1665⟩
      have hF1662 : Fr fm_m212_613 M0 M1659 := hF1655.tr hQ1661 rfl
      refine wk_ifeq r212_52 ⟨by omega, by omega⟩ ?_ ?_
      · intro h1666
        refine wk_c1 r212_60 (wk_is3 r212_61 rfl ?_)
        have c62_1744 : ∀ (k1744 : Nat) (M1670 : Mm) (v1667 : Int), (7 - v1667).toNat = k1744 → Pw M1670 → Fr fm_m212_613 M0 M1670 → M1670 613 6 = p1 → M1670 613 7 = p2 → 0 ≤ v1667 → v1667 ≤ 7 → Wp B (d + 6) 212 62 [some (R 613), none, none, some (I v1667), none, none] [] M1670 Q := by
          refine lp_ind ?_
          intro k1744 ih1744 M1670 v1667 hk1744 hP1671 hF1672 e1673 e1674 h1668 h1669
          refine wk_il3 r212_62 (wk_al0 r212_63 (wk_getfr r212_64 fd_613_0 (br_613_0 hP1671) (wk_getfr r212_67 fd_174_0 (br_174_0 hP1671) (wk_getfb r212_70 fd_176_7 (bf_176_7 hP1671) ?_))))
          intro v1675 h1677 h1678 e1676
          refine wk_icge r212_73 ⟨by omega, by omega⟩ ⟨by omega, by omega⟩ ?_ ?_
          · intro h1679
            refine wk_c1 r212_192 ?_
            subst hQ; exact wk_iret r212_193 (⟨rfl, _, rfl, hP1671, hF1672, by omega, by omega⟩)
          · intro h1680
            refine wk_c1 r212_76 (wk_is4 r212_77 rfl ?_)
            have c79_1743 : ∀ (k1743 : Nat) (M1684 : Mm) (v1681 : Int), (30 - v1681).toNat = k1743 → Pw M1684 → Fr fm_m212_613 M0 M1684 → M1684 613 6 = p1 → M1684 613 7 = p2 → M1684 176 7 = v1675 → 0 ≤ v1681 → v1681 ≤ 30 → Wp B (d + 6) 212 79 [some (R 613), none, none, some (I v1667), some (I v1681), none] [] M1684 Q := by
              refine lp_ind ?_
              intro k1743 ih1743 M1684 v1681 hk1743 hP1685 hF1686 e1687 e1688 e1689 h1682 h1683
              refine wk_il4 r212_79 (wk_al0 r212_81 (wk_getfi r212_82 fd_613_6 e1687 ?_))
              refine wk_icge r212_85 ⟨by omega, by omega⟩ ⟨by omega, by omega⟩ ?_ ?_
              · intro h1690
                refine wk_inc3 r212_186 rfl (wk_goto r212_189 ?_)
                exact wp_fg (le_s (le_s (le_s (le_s (le_n (le_s le_0)))))) (ih1744 (7 - (v1667 + 1)).toNat (by omega) M1684 (v1667 + 1) rfl hP1685 hF1686 e1687 e1688 (by omega) (by omega))
              · intro h1691
                refine wk_al0 r212_88 (wk_getfr r212_89 fd_613_0 (br_613_0 hP1685) (wk_al0 r212_92 (wk_getfr r212_93 fd_613_0 (br_613_0 hP1685) (wk_cv1 r212_96 kc_174_145 rfl (m145_174 _ M1684 hP1685) (cqR ?_)))))
                rintro v1696 M1692 ⟨hP1693, hQ1694, h1697, h1698⟩
                obtain rfl : v1696 = 301 := by omega
                obtain rfl := Fr.same hQ1694
                refine wk_il3 r212_99 (wk_c1 r212_100 (wk_al0 r212_101 (wk_getfr r212_102 fd_613_2 (br_613_2 hP1685) (wk_il4 r212_105 (wk_raldb r212_107 ar_615 ⟨by omega, by omega⟩ (fun q0 q1 => ba_615 hP1685 q0 q1) (wk_al0 r212_108 (wk_getfr r212_109 fd_613_4 (br_613_4 hP1685) (wk_cv6 r212_112 kc_174_148 rfl (m148_174_301_f616_677v5 _ M1684 v1667 (-1) (616 + v1681) hP1685 (by omega) (by omega) (by decide) (by decide) (by omega) (by omega)) (cqV ?_)))))))))
                rintro M1699 ⟨hP1700, hQ1701⟩
                have hF1702 : Fr fm_m212_613 M0 M1699 := hF1686.tr hQ1701 rfl
                refine wk_al0 r212_115 (wk_getfr r212_116 fd_613_0 (br_613_0 hP1700) (wk_al0 r212_119 (wk_getfr r212_120 fd_613_4 (br_613_4 hP1700) (wk_cv2 r212_123 kc_174_149 rfl (m149_174_677 _ M1699 hP1700) (cqI ?_)))))
                rintro v1707 M1703 ⟨hP1704, hQ1705, h1708, h1709⟩
                obtain rfl := Fr.same hQ1705
                refine wk_c1 r212_126 ?_
                have c141_1742 : ∀ (M1722 : Mm) (v1719 : Int), Pw M1722 → Fr fm_m212_613 M0 M1722 → M1722 613 6 = p1 → M1722 613 7 = p2 → M1722 176 7 = v1675 → (-1) ≤ v1719 → v1719 ≤ 209 → Wp B (d + 6) 212 141 [some (R 613), none, none, some (I v1667), some (I v1681), none] [I v1719] M1722 Q := by
                  intro M1722 v1719 hP1723 hF1724 e1725 e1726 e1727 h1720 h1721
                  refine wk_is5 r212_141 rfl (wk_il5 r212_143 (wk_c1 r212_145 ?_))
                  refine wk_iceq r212_146 ⟨by omega, by omega⟩ (by decide) ?_ ?_
                  · intro h1728
                    refine wk_inc4 r212_180 rfl (wk_goto r212_183 ?_)
                    exact wp_fg (le_s (le_s (le_s (le_s (le_s (le_n le_0)))))) (ih1743 (30 - (v1681 + 1)).toNat (by omega) M1722 (v1681 + 1) rfl hP1723 hF1724 e1725 e1726 e1727 (by omega) (by omega))
                  · intro h1729
                    refine wk_al0 r212_149 (wk_getfr r212_150 fd_613_8 (br_613_8 hP1723) (wk_c1 r212_153 (wk_c2 r212_154 (wk_il3 r212_156 (wk_imul r212_157 (wk_il4 r212_158 (wk_iadd r212_160 (wk_iast r212_161 ar_614 (by decide) (wk_nw (ga_614 _) rfl hP1723 hF1724 (ua_614 ⟨by omega, by omega⟩) ?_)))))))))
                    intro M1730 hP1731 hF1732 e1733
                    refine wk_al0 r212_162 (wk_getfr r212_163 fd_613_8 (br_613_8 hP1731) (wk_c1 r212_166 (wk_il5 r212_167 (wk_iast r212_169 ar_614 (by decide) (wk_nw (ga_614 _) rfl hP1731 hF1732 (ua_614 ⟨by omega, by omega⟩) ?_)))))
                    intro M1734 hP1735 hF1736 e1737
                    refine wk_al0 r212_170 (wk_c1 r212_171 (wk_putfi81 r212_172 fd_613_9 (wk_nw g_613_9 rfl hP1735 hF1736 (uf_613_9 (by decide)) ?_)))
                    intro M1738 hP1739 hF1740 e1741
                    refine wk_al0 r212_175 (wk_getfi r212_176 fd_613_9 (mUp_at e1741) ?_)
                    subst hQ; exact wk_iret r212_179 (⟨rfl, _, rfl, hP1739, hF1740, by omega, by omega⟩)
                refine wk_icne r212_127 ⟨by omega, by omega⟩ (by decide) ?_ ?_
                · intro h1710
                  refine wk_al0 r212_134 (wk_il3 r212_135 (wk_il4 r212_136 (wk_cv3 r212_138 kc_613_213 rfl (m213_613v12 _ M1699 v1667 v1681 hP1700 (by omega) (by omega) (by omega) (by omega)) (cqI ?_))))
                  rintro v1715 M1711 ⟨hP1712, hQ1713, h1716, h1717⟩
                  have hF1714 : Fr fm_m212_613 M0 M1711 := hF1702.tr hQ1713 rfl
                  exact wp_fg (le_s (le_s (le_s (le_s (le_s (le_s le_0)))))) (c141_1742 M1711 v1715 hP1712 hF1714 ((hQ1713.at g_613_6 rfl).trans ((hQ1701.at g_613_6 rfl).trans e1687)) ((hQ1713.at g_613_7 rfl).trans ((hQ1701.at g_613_7 rfl).trans e1688)) ((hQ1713.at g_176_7 rfl).trans ((hQ1701.at g_176_7 rfl).trans e1689)) (by omega) (by omega))
                · intro h1718
                  refine wk_c1 r212_130 (wk_goto r212_131 ?_)
                  exact wp_fg (le_s (le_s (le_s (le_s (le_s (le_s le_0)))))) (c141_1742 M1699 (-1) hP1700 hF1702 ((hQ1701.at g_613_6 rfl).trans e1687) ((hQ1701.at g_613_7 rfl).trans e1688) ((hQ1701.at g_176_7 rfl).trans e1689) (by omega) (by omega))
            exact wp_fg (le_s (le_s (le_s (le_s (le_s (le_s le_0)))))) (c79_1743 _ M1670 0 rfl hP1671 hF1672 e1673 e1674 e1676 (by omega) (by omega))
        exact wp_fg (le_s (le_s (le_s (le_s (le_s (le_s le_0)))))) (c62_1744 _ M1659 0 rfl hP1660 hF1662 ((hQ1661.at g_613_6 rfl).trans e1656) ((hQ1661.at g_613_7 rfl).trans e1657) (by omega) (by omega))
      · intro h1745
        refine wk_al0 r212_55 (wk_getfb r212_56 fd_613_9 (bf_613_9 hP1660) ?_)
        intro v1746 h1748 h1749 e1747
        subst hQ; exact wk_iret r212_59 (⟨rfl, _, rfl, hP1660, hF1662, by omega, by omega⟩)
    · intro h1750
      refine wk_al0 r212_20 (wk_getfr r212_21 fd_613_0 (br_613_0 hP1654) (wk_getfr r212_24 fd_174_0 (br_174_0 hP1654) (wk_al0 r212_27 (wk_getfr r212_28 fd_613_1 (br_613_1 hP1654) (wk_il3 r212_31 (wk_caldb r212_32 ar_168 ⟨by omega, by omega⟩ (fun q0 q1 => ba_168 hP1654 q0 q1) ?_))))))
      intro v1751 e1752
      have hC1753 : isC v1751 := Or.inr (by omega)
      refine wk_al0 r212_33 (wk_getfr r212_34 fd_613_2 (br_613_2 hP1654) (wk_il3 r212_37 (wk_raldb r212_38 ar_615 ⟨by omega, by omega⟩ (fun q0 q1 => ba_615 hP1654 q0 q1) (wk_cv3 r212_39 kc_176_196 rfl (m196_176_f616 _ M1653 v1751 (616 + v1650) hP1654 hC1753 (by omega) (by omega)) (cqV ?_)))))
      rintro M1754 ⟨hP1755, hQ1756⟩
      have hF1757 : Fr fm_m212_613 M0 M1754 := hF1655.tr hQ1756 rfl
      refine wk_inc3 r212_42 rfl (wk_goto r212_45 ?_)
      exact wp_fg (le_s (le_s (le_s (le_s (le_s (le_s le_0)))))) (ih1758 (30 - (v1650 + 1)).toNat (by omega) M1754 (v1650 + 1) rfl hP1755 hF1757 ((hQ1756.at g_613_6 rfl).trans e1656) ((hQ1756.at g_613_7 rfl).trans e1657) (by omega) (by omega))
  exact wp_fg (le_s (le_n (le_n (le_s (le_s (le_s le_0)))))) (c12_1758 _ M5 0 rfl hP6 hF7 (mUp_no e8 (mUp_at e4) (Or.inr (by decide))) (mUp_at e8) (by omega) (by omega))
def fm_m37_0 : Nat := 11456517233413190441365286147745378734451571294208
/-- IslandHall.riddle -/
theorem m37_0 {B : eB} (d : Nat) (M0 : Mm) (p1 : Int) (hP0 : Pw M0) (l1 : (-2147483648) ≤ p1) (u1 : p1 ≤ 2147483647) : Ct B (d + 8) 37 [R 0, I p1] M0 (qX 0 (fun M => Pw M ∧ Fr (fm_m37_0 ||| 1) M0 M ∧ M (-1) 0 = M0 (-1) 0 + 1) (qI fun z M => Pw M ∧ Fr fm_m37_0 M0 M ∧ (-2) ≤ z ∧ z ≤ 2)) := by
  refine ct_of (d := d + 7) (k := 0) (L := [some (R 0), some (I p1)]) rfl rfl rfl ?_
  have hF0 := Fr.rf fm_m37_0 M0
  generalize hQ : (qX 0 (fun M => Pw M ∧ Fr (fm_m37_0 ||| 1) M0 M ∧ M (-1) 0 = M0 (-1) 0 + 1) (qI fun z M => Pw M ∧ Fr fm_m37_0 M0 M ∧ (-2) ≤ z ∧ z ≤ 2)) = Q
  refine wk_il1 r37_0 (wk_cs102_1 r37_1 rfl (m29 _ M0 p1 hP0 (by omega) (by omega)) (cqX (fun _ _ x5 => by subst hQ; exact Or.inl ⟨rfl, x5.1, Fr.trx hF0 x5.2.1 rfl, (by rw [x5.2.2, hF0.at g_below rfl])⟩) (cqV ?_)))
  rintro M1 ⟨hP2, hQ3, h8, h9⟩
  obtain rfl := Fr.same hQ3
  refine wk_al0 r37_4 (wk_getfr r37_5 fd_0_7 (br_0_7 hP0) (wk_getfb r37_8 fd_138_5 (bf_138_5 hP0) ?_))
  intro v10 h12 h13 e11
  refine wk_c1 r37_11 (wk_iadd r37_12 (wk_c2 r37_13 ?_))
  refine wk_icle r37_15 ⟨by omega, by omega⟩ (by decide) ?_ ?_
  · intro h14
    refine wk_al0 r37_20 (wk_getfr r37_21 fd_0_6 (br_0_6 hP0) (wk_al0 r37_24 (wk_getfr r37_25 fd_0_7 (br_0_7 hP0) (wk_cv1 r37_28 kc_138_229 rfl (m229_138 _ M0 hP0) (cqR ?_)))))
    rintro v19 M15 ⟨hP16, hQ17, h20, h21⟩
    obtain rfl := Fr.same hQ17
    refine wk_cv2 r37_31 kc_10_194 rfl (m194_10_f155 _ M0 v19 hP0 (by omega) (by omega)) (cqI ?_)
    rintro v26 M22 ⟨hP23, hQ24, h27, h28⟩
    obtain rfl := Fr.same hQ24
    refine wk_c3 r37_34 ?_
    refine wk_icle r37_37 ⟨by omega, by omega⟩ (by decide) ?_ ?_
    · intro h29
      refine wk_al0 r37_43 (wk_getfr r37_44 fd_0_15 (br_0_15 hP0) (wk_al0 r37_47 (wk_getfr r37_48 fd_0_7 (br_0_7 hP0) (wk_il1 r37_51 (wk_cv3 r37_52 kc_174_146 rfl (m146_174_138 _ M0 p1 hP0 (by omega) (by omega)) (cqV ?_))))))
      rintro M30 ⟨hP31, hQ32⟩
      have hF33 : Fr fm_m37_0 M0 M30 := hF0.tr hQ32 rfl
      refine wk_al0 r37_55 (wk_getfr r37_56 fd_0_17 (br_0_17 hP31) (wk_al0 r37_59 (wk_getfb r37_60 fd_0_9 (bf_0_9 hP31) ?_)))
      intro v34 h36 h37 e35
      refine wk_al0 r37_63 (wk_getfr r37_64 fd_0_7 (br_0_7 hP31) (wk_getfi r37_67 fd_138_5 ((hQ32.at g_138_5 rfl).trans e11) (wk_cv3 r37_70 kc_613_212 rfl (m212_613 _ M30 v34 v10 hP31 (by omega) (by omega) (by omega) (by omega)) (cqI ?_))))
      rintro v42 M38 ⟨hP39, hQ40, h43, h44⟩
      have hF41 : Fr fm_m37_0 M0 M38 := hF33.tr hQ40 rfl
      subst hQ; exact wk_iret r37_73 (Or.inr ⟨rfl, _, rfl, hP39, hF41, by omega, by omega⟩)
    · intro h45
      refine wk_c2 r37_40 ?_
      subst hQ; exact wk_iret r37_42 (Or.inr ⟨rfl, _, rfl, hP0, hF0, by omega, by omega⟩)
  · intro h46
    refine wk_c1 r37_18 ?_
    subst hQ; exact wk_iret r37_19 (Or.inr ⟨rfl, _, rfl, hP0, hF0, by omega, by omega⟩)
def fm_m27_0 : Nat := 0
/-- IslandHall.line -/
theorem m27_0 {B : eB} (d : Nat) (M0 : Mm) (p1 : Int) (hP0 : Pw M0) (l1 : (-2147483648) ≤ p1) (u1 : p1 ≤ 2147483647) : Ct B (d + 1) 27 [R 0, I p1] M0 (qX 0 (fun M => Pw M ∧ Fr (fm_m27_0 ||| 1) M0 M ∧ M (-1) 0 = M0 (-1) 0 + 1) (qI fun z M => Pw M ∧ Fr fm_m27_0 M0 M ∧ 0 ≤ z ∧ z ≤ 209)) := by
  refine ct_of (d := d + 0) (k := 0) (L := [some (R 0), some (I p1)]) rfl rfl rfl ?_
  have hF0 := Fr.rf fm_m27_0 M0
  generalize hQ : (qX 0 (fun M => Pw M ∧ Fr (fm_m27_0 ||| 1) M0 M ∧ M (-1) 0 = M0 (-1) 0 + 1) (qI fun z M => Pw M ∧ Fr fm_m27_0 M0 M ∧ 0 ≤ z ∧ z ≤ 209)) = Q
  refine wk_il1 r27_0 ?_
  refine wk_iflt r27_1 ⟨by omega, by omega⟩ ?_ ?_
  · intro h1
    subst hQ; exact wk_thr112 r27_15 rfl (Or.inl ⟨rfl, hP0.thr, (Fr.thr hF0), (by rw [mUp_eq, hF0.at g_below rfl])⟩)
  · intro h2
    refine wk_il1 r27_4 (wk_al0 r27_5 (wk_getfr r27_6 fd_0_17 (br_0_17 hP0) (wk_getfb r27_9 fd_613_9 (bf_613_9 hP0) ?_)))
    intro v3 h5 h6 e4
    refine wk_iclt r27_12 ⟨by omega, by omega⟩ ⟨by omega, by omega⟩ ?_ ?_
    · intro h7
      refine wk_al0 r27_26 (wk_getfr r27_27 fd_0_17 (br_0_17 hP0) (wk_getfr r27_30 fd_613_8 (br_613_8 hP0) (wk_il1 r27_33 (wk_ialdb r27_34 ar_614 ⟨by omega, by omega⟩ (fun q0 q1 => ba_614 hP0 q0 q1) ?_))))
      intro v8 h10 h11 e9
      subst hQ; exact wk_iret r27_35 (Or.inr ⟨rfl, _, rfl, hP0, hF0, by omega, by omega⟩)
    · intro h12
      subst hQ; exact wk_thr112 r27_15 rfl (Or.inl ⟨rfl, hP0.thr, (Fr.thr hF0), (by rw [mUp_eq, hF0.at g_below rfl])⟩)
