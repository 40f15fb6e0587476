/-! ===== the law's cases, walked ===== -/
set_option maxHeartbeats 1000000 in
set_option maxRecDepth 100000 in
theorem w_22 {Γ : zCx} {b L : Nat} {xs : Nat → Int32} {P : zP} {T : zS} {i j : Int} {w : Int64} {wd : UInt64} {ad : zK → Nat} {nc ns : Nat} (hst : (z_l Γ).stackTraces = false) (hNc : zNc (z_s Γ)) (hX : zSc Γ b L xs) (hi : 0 ≤ i ∧ i + 6 ≤ L ∧ L ≤ 3072) (hc : nc + 700 ≤ 601024 ∧ ns + 7300 ≤ 7293034) {p1 : Int} (hp1 : zR p1) (hx1 : xs (i + 1).toNat = zI p1) {p2 : Int} (hp2 : zR p2) (hx2 : xs (i + 2).toNat = zI p2) (hJ : xJ P T T) (hj : T (0, 0, 0, 0) 4 ≤ j) (hj2 : j ≤ 512) (kk : zKn Γ b i j nc ns ad) : G Γ zRL cL_law 9 RL ad (mm (z_d Γ) ad P T (zXl (z_d Γ) w wd)) nc ns 1642 (zLv ad b i) [] := by
  show G Γ zRL cL_law 9 RL ad (mm (z_d Γ) ad P T (zXl (z_d Γ) w wd)) nc ns 1642 [(5, .int (zI i)), (0, .ref b), (1, .ref (ad (0, 0, 0, 0))), (2, .ref (ad (40, 0, 0, 0))), (3, .ref (ad (82, 0, 0, 0))), (4, .ref (ad (83, 0, 0, 0)))] []
  refine G_aload_n (pc := 1642) 1 2 dL_law_1642 rfl rfl ?_
  refine G_aload_n (pc := 1643) 0 1 dL_law_1643 rfl rfl ?_
  refine G_iload (pc := 1644) 0 dL_law_1644 rfl ?_
  refine G_iconst (pc := 1646) dL_law_1646 ?_
  refine G_iadd (pc := 1647) dL_law_1647 ?_
  refine G_sld (pc := 1648) (v := p1) hX dL_law_1648 ⟨by omega, by omega, by omega, by omega⟩ hx1 ?_
  refine G_aload_n (pc := 1649) 0 1 dL_law_1649 rfl rfl ?_
  refine G_iload (pc := 1650) 0 dL_law_1650 rfl ?_
  refine G_iconst (pc := 1652) dL_law_1652 ?_
  refine G_iadd (pc := 1653) dL_law_1653 ?_
  refine G_sld (pc := 1654) (v := p2) hX dL_law_1654 ⟨by omega, by omega, by omega, by omega⟩ hx2 ?_
  refine G_aload_n (pc := 1655) 3 4 dL_law_1655 rfl rfl ?_
  obtain ⟨d1, mc1, ms1, hr1, hm1⟩ := s_reader (l := z_l Γ) (Δ := z_d Γ) (g := p1) (p := p2) hst hp1 hp2 P T j w wd ad hJ hj hj2
  have hr1' : d1 ≤ 11 ∧ mc1 ≤ 50 ∧ ms1 ≤ 1300 := hr1
  refine G_callH (pc := 1656) hNc hk_reader dL_law_1656 hm1 rfl rfl (Nat.le_of_ble_eq_true rfl) ⟨⟨by show d1 + 1 ≤ 12; omega, by show 8 + (5 + 11) + 38 * d1 ≤ 462; omega⟩, by show nc + mc1 ≤ 601024; omega, by show ns + ms1 ≤ 7293034; omega⟩ (fun v1 ad1 M1 hpo => ?_)
  obtain ⟨k, P1, T1, w1, rfl, hk, rfl, ⟨a0, a40, a82, a83⟩, d2, mc2, ms2, hr2, hm2⟩ := hpo
  have hr2' : d2 ≤ 11 ∧ mc2 ≤ 650 ∧ ms2 ≤ 6000 := hr2
  rw [← a0, ← a40, ← a82, ← a83]
  refine G_istore (pc := 1659) [(6, .int (zI k)), (5, .int (zI i)), (0, .ref b), (1, .ref (ad1 (0, 0, 0, 0))), (2, .ref (ad1 (40, 0, 0, 0))), (3, .ref (ad1 (82, 0, 0, 0))), (4, .ref (ad1 (83, 0, 0, 0)))] dL_law_1659 (by decide) rfl ?_
  refine G_aload_n (pc := 1661) 2 4 dL_law_1661 rfl rfl ?_
  refine G_aload_n (pc := 1662) 0 2 dL_law_1662 rfl rfl ?_
  refine G_iload (pc := 1663) 1 dL_law_1663 rfl ?_
  refine G_iconst (pc := 1665) dL_law_1665 ?_
  refine G_iadd (pc := 1666) dL_law_1666 ?_
  refine G_sld (pc := 1667) (v := p1) hX dL_law_1667 ⟨by omega, by omega, by omega, by omega⟩ hx1 ?_
  refine G_aload_n (pc := 1668) 0 2 dL_law_1668 rfl rfl ?_
  refine G_iload (pc := 1669) 1 dL_law_1669 rfl ?_
  refine G_iconst (pc := 1671) dL_law_1671 ?_
  refine G_iadd (pc := 1672) dL_law_1672 ?_
  refine G_sld (pc := 1673) (v := p2) hX dL_law_1673 ⟨by omega, by omega, by omega, by omega⟩ hx2 ?_
  refine G_callV (pc := 1674) gk_L_207 dL_law_1674 mg_40 rfl hm2 rfl rfl (Nat.le_of_ble_eq_true rfl) ⟨⟨by show d2 + 1 ≤ 12; omega, by show 8 + (3 + 11) + 38 * d2 ≤ 462; omega⟩, by show nc + mc1 + mc2 ≤ 601024; omega, by show ns + ms1 + ms2 ≤ 7293034; omega⟩ (fun v2 ad2 M2 hpo => ?_)
  obtain ⟨b', P2, T2, rfl, hb', rfl, ⟨c0, c40, c82, c83⟩, ek, ew, hJ2, hj3⟩ := hpo
  rw [← c0, ← c40, ← c82, ← c83]
  have hk2 : zKp ad ad2 := ⟨c0.trans a0, c40.trans a40, c82.trans a82, c83.trans a83⟩
  refine G_istore (pc := 1677) [(7, .int (zI b')), (6, .int (zI k)), (5, .int (zI i)), (0, .ref b), (1, .ref (ad2 (0, 0, 0, 0))), (2, .ref (ad2 (40, 0, 0, 0))), (3, .ref (ad2 (82, 0, 0, 0))), (4, .ref (ad2 (83, 0, 0, 0)))] dL_law_1677 (by decide) rfl ?_
  refine G_aload_n (pc := 1679) 2 5 dL_law_1679 rfl rfl ?_
  refine G_callVd (pc := 1680) gk_L_129 dL_law_1680 mg_40 rfl (c_X7_thrown (Q := P2) hJ2.2.2.2.2.2.1) rfl rfl (Nat.le_of_ble_eq_true rfl) ⟨⟨Nat.le_of_ble_eq_true rfl, Nat.le_of_ble_eq_true rfl⟩, by show nc + mc1 + mc2 + 0 ≤ 601024; omega, by show ns + ms1 + ms2 + 0 ≤ 7293034; omega⟩ ?_
  rw [ek]
  refine G_iload (pc := 1683) 1 dL_law_1683 rfl ?_
  refine G_icmp_eq (pc := 1685) 1690 dL_law_1685 (by decide) ⟨by omega, by omega⟩ ⟨by omega, by omega⟩ (fun _ => ?_) (fun q => absurd rfl q)
  refine G_iload (pc := 1690) 1 dL_law_1690 rfl ?_
  have hfin : ∀ X9 : zK → Nat, X9 = ad2 → G Γ zRL cL_law 9 RL X9 (mm (z_d Γ) X9 P2 T2 (zXl (z_d Γ) w1 wd)) (nc + mc1 + mc2) (ns + ms1 + ms2) 1707 [(7, .int (zI b')), (6, .int (zI k)), (5, .int (zI i)), (0, .ref b), (1, .ref (X9 (0, 0, 0, 0))), (2, .ref (X9 (40, 0, 0, 0))), (3, .ref (X9 (82, 0, 0, 0))), (4, .ref (X9 (83, 0, 0, 0)))] [] := by
    intro X9 e9
    subst e9
    refine G_goto (pc := 1707) 2562 dL_law_1707 (by decide) ?_
    refine G_perm (lv' := zLv X9 b i) [2, 3, 4, 5, 6, 7] rfl ?_
    exact G_more (by omega) (by omega) (kk P2 T2 _ _ X9 hJ2 hj3 hk2)
  refine G_if_ne (pc := 1692) 1707 dL_law_1692 (by decide) ⟨by omega, by omega⟩ (fun _ => hfin ad2 rfl) (fun e0 => ?_)
  refine G_aload_n (pc := 1695) 3 6 dL_law_1695 rfl rfl ?_
  refine G_iconst (pc := 1696) dL_law_1696 ?_
  refine G_lald (pc := 1697) dL_law_1697 zXl_82 ?_
  refine G_iload (pc := 1698) 0 dL_law_1698 rfl ?_
  refine G_i2l (pc := 1700) dL_law_1700 hb' ?_
  rw [ew e0]
  refine G_lcmpE (pc := 1701) dL_law_1701 ?_
  refine G_if_eq (pc := 1702) 1707 dL_law_1702 (by decide) zR_0 (fun _ => ?_) (fun q => absurd rfl q)
  have h9 := hfin ad2 rfl
  rw [ew e0] at h9
  exact h9
set_option maxHeartbeats 1000000 in
set_option maxRecDepth 100000 in
theorem w_23 {Γ : zCx} {b L : Nat} {xs : Nat → Int32} {P : zP} {T : zS} {i j : Int} {w : Int64} {wd : UInt64} {ad : zK → Nat} {nc ns : Nat} (hst : (z_l Γ).stackTraces = false) (hNc : zNc (z_s Γ)) (hX : zSc Γ b L xs) (hi : 0 ≤ i ∧ i + 6 ≤ L ∧ L ≤ 3072) (hc : nc + 700 ≤ 601024 ∧ ns + 7300 ≤ 7293034) {p1 : Int} (hp1 : zR p1) (hx1 : xs (i + 1).toNat = zI p1) {p2 : Int} (hp2 : zR p2) (hx2 : xs (i + 2).toNat = zI p2) (hJ : xJ P T T) (hj : T (0, 0, 0, 0) 4 ≤ j) (hj2 : j ≤ 512) (kk : zKn Γ b i j nc ns ad) : G Γ zRL cL_law 9 RL ad (mm (z_d Γ) ad P T (zXl (z_d Γ) w wd)) nc ns 1710 (zLv ad b i) [] := by
  show G Γ zRL cL_law 9 RL ad (mm (z_d Γ) ad P T (zXl (z_d Γ) w wd)) nc ns 1710 [(5, .int (zI i)), (0, .ref b), (1, .ref (ad (0, 0, 0, 0))), (2, .ref (ad (40, 0, 0, 0))), (3, .ref (ad (82, 0, 0, 0))), (4, .ref (ad (83, 0, 0, 0)))] []
  refine G_aload_n (pc := 1710) 1 2 dL_law_1710 rfl rfl ?_
  refine G_aload_n (pc := 1711) 0 1 dL_law_1711 rfl rfl ?_
  refine G_iload (pc := 1712) 0 dL_law_1712 rfl ?_
  refine G_iconst (pc := 1714) dL_law_1714 ?_
  refine G_iadd (pc := 1715) dL_law_1715 ?_
  refine G_sld (pc := 1716) (v := p1) hX dL_law_1716 ⟨by omega, by omega, by omega, by omega⟩ hx1 ?_
  refine G_aload_n (pc := 1717) 0 1 dL_law_1717 rfl rfl ?_
  refine G_iload (pc := 1718) 0 dL_law_1718 rfl ?_
  refine G_iconst (pc := 1720) dL_law_1720 ?_
  refine G_iadd (pc := 1721) dL_law_1721 ?_
  refine G_sld (pc := 1722) (v := p2) hX dL_law_1722 ⟨by omega, by omega, by omega, by omega⟩ hx2 ?_
  refine G_aload_n (pc := 1723) 3 4 dL_law_1723 rfl rfl ?_
  obtain ⟨d1, mc1, ms1, hr1, hm1⟩ := s_mark (l := z_l Γ) (Δ := z_d Γ) (g := p1) (p := p2) hst hp1 hp2 P T j w wd ad hJ hj hj2
  have hr1' : d1 ≤ 11 ∧ mc1 ≤ 50 ∧ ms1 ≤ 1300 := hr1
  refine G_callH (pc := 1724) hNc hk_mark dL_law_1724 hm1 rfl rfl (Nat.le_of_ble_eq_true rfl) ⟨⟨by show d1 + 1 ≤ 12; omega, by show 8 + (5 + 11) + 38 * d1 ≤ 462; omega⟩, by show nc + mc1 ≤ 601024; omega, by show ns + ms1 ≤ 7293034; omega⟩ (fun v1 ad1 M1 hpo => ?_)
  obtain ⟨k, P1, T1, w1, rfl, hk, rfl, ⟨a0, a40, a82, a83⟩, d2, mc2, ms2, hr2, hm2⟩ := hpo
  have hr2' : d2 ≤ 11 ∧ mc2 ≤ 650 ∧ ms2 ≤ 6000 := hr2
  rw [← a0, ← a40, ← a82, ← a83]
  refine G_istore (pc := 1727) [(6, .int (zI k)), (5, .int (zI i)), (0, .ref b), (1, .ref (ad1 (0, 0, 0, 0))), (2, .ref (ad1 (40, 0, 0, 0))), (3, .ref (ad1 (82, 0, 0, 0))), (4, .ref (ad1 (83, 0, 0, 0)))] dL_law_1727 (by decide) rfl ?_
  refine G_aload_n (pc := 1729) 2 4 dL_law_1729 rfl rfl ?_
  refine G_aload_n (pc := 1730) 0 2 dL_law_1730 rfl rfl ?_
  refine G_iload (pc := 1731) 1 dL_law_1731 rfl ?_
  refine G_iconst (pc := 1733) dL_law_1733 ?_
  refine G_iadd (pc := 1734) dL_law_1734 ?_
  refine G_sld (pc := 1735) (v := p1) hX dL_law_1735 ⟨by omega, by omega, by omega, by omega⟩ hx1 ?_
  refine G_aload_n (pc := 1736) 0 2 dL_law_1736 rfl rfl ?_
  refine G_iload (pc := 1737) 1 dL_law_1737 rfl ?_
  refine G_iconst (pc := 1739) dL_law_1739 ?_
  refine G_iadd (pc := 1740) dL_law_1740 ?_
  refine G_sld (pc := 1741) (v := p2) hX dL_law_1741 ⟨by omega, by omega, by omega, by omega⟩ hx2 ?_
  refine G_callV (pc := 1742) gk_L_210 dL_law_1742 mg_40 rfl hm2 rfl rfl (Nat.le_of_ble_eq_true rfl) ⟨⟨by show d2 + 1 ≤ 12; omega, by show 8 + (3 + 11) + 38 * d2 ≤ 462; omega⟩, by show nc + mc1 + mc2 ≤ 601024; omega, by show ns + ms1 + ms2 ≤ 7293034; omega⟩ (fun v2 ad2 M2 hpo => ?_)
  obtain ⟨b', P2, T2, rfl, hb', rfl, ⟨c0, c40, c82, c83⟩, ek, ew, hJ2, hj3⟩ := hpo
  rw [← c0, ← c40, ← c82, ← c83]
  have hk2 : zKp ad ad2 := ⟨c0.trans a0, c40.trans a40, c82.trans a82, c83.trans a83⟩
  refine G_istore (pc := 1745) [(7, .int (zI b')), (6, .int (zI k)), (5, .int (zI i)), (0, .ref b), (1, .ref (ad2 (0, 0, 0, 0))), (2, .ref (ad2 (40, 0, 0, 0))), (3, .ref (ad2 (82, 0, 0, 0))), (4, .ref (ad2 (83, 0, 0, 0)))] dL_law_1745 (by decide) rfl ?_
  refine G_aload_n (pc := 1747) 2 5 dL_law_1747 rfl rfl ?_
  refine G_callVd (pc := 1748) gk_L_129 dL_law_1748 mg_40 rfl (c_X7_thrown (Q := P2) hJ2.2.2.2.2.2.1) rfl rfl (Nat.le_of_ble_eq_true rfl) ⟨⟨Nat.le_of_ble_eq_true rfl, Nat.le_of_ble_eq_true rfl⟩, by show nc + mc1 + mc2 + 0 ≤ 601024; omega, by show ns + ms1 + ms2 + 0 ≤ 7293034; omega⟩ ?_
  rw [ek]
  refine G_iload (pc := 1751) 1 dL_law_1751 rfl ?_
  refine G_icmp_eq (pc := 1753) 1758 dL_law_1753 (by decide) ⟨by omega, by omega⟩ ⟨by omega, by omega⟩ (fun _ => ?_) (fun q => absurd rfl q)
  refine G_iload (pc := 1758) 1 dL_law_1758 rfl ?_
  have hfin : ∀ X9 : zK → Nat, X9 = ad2 → G Γ zRL cL_law 9 RL X9 (mm (z_d Γ) X9 P2 T2 (zXl (z_d Γ) w1 wd)) (nc + mc1 + mc2) (ns + ms1 + ms2) 1775 [(7, .int (zI b')), (6, .int (zI k)), (5, .int (zI i)), (0, .ref b), (1, .ref (X9 (0, 0, 0, 0))), (2, .ref (X9 (40, 0, 0, 0))), (3, .ref (X9 (82, 0, 0, 0))), (4, .ref (X9 (83, 0, 0, 0)))] [] := by
    intro X9 e9
    subst e9
    refine G_goto (pc := 1775) 2562 dL_law_1775 (by decide) ?_
    refine G_perm (lv' := zLv X9 b i) [2, 3, 4, 5, 6, 7] rfl ?_
    exact G_more (by omega) (by omega) (kk P2 T2 _ _ X9 hJ2 hj3 hk2)
  refine G_if_ne (pc := 1760) 1775 dL_law_1760 (by decide) ⟨by omega, by omega⟩ (fun _ => hfin ad2 rfl) (fun e0 => ?_)
  refine G_aload_n (pc := 1763) 3 6 dL_law_1763 rfl rfl ?_
  refine G_iconst (pc := 1764) dL_law_1764 ?_
  refine G_lald (pc := 1765) dL_law_1765 zXl_82 ?_
  refine G_iload (pc := 1766) 0 dL_law_1766 rfl ?_
  refine G_i2l (pc := 1768) dL_law_1768 hb' ?_
  rw [ew e0]
  refine G_lcmpE (pc := 1769) dL_law_1769 ?_
  refine G_if_eq (pc := 1770) 1775 dL_law_1770 (by decide) zR_0 (fun _ => ?_) (fun q => absurd rfl q)
  have h9 := hfin ad2 rfl
  rw [ew e0] at h9
  exact h9
set_option maxHeartbeats 1000000 in
set_option maxRecDepth 100000 in
theorem w_24 {Γ : zCx} {b L : Nat} {xs : Nat → Int32} {P : zP} {T : zS} {i j : Int} {w : Int64} {wd : UInt64} {ad : zK → Nat} {nc ns : Nat} (hst : (z_l Γ).stackTraces = false) (hNc : zNc (z_s Γ)) (hX : zSc Γ b L xs) (hi : 0 ≤ i ∧ i + 6 ≤ L ∧ L ≤ 3072) (hc : nc + 700 ≤ 601024 ∧ ns + 7300 ≤ 7293034) {p1 : Int} (hp1 : zR p1) (hx1 : xs (i + 1).toNat = zI p1) {p2 : Int} (hp2 : zR p2) (hx2 : xs (i + 2).toNat = zI p2) (hJ : xJ P T T) (hj : T (0, 0, 0, 0) 4 ≤ j) (hj2 : j ≤ 512) (kk : zKn Γ b i j nc ns ad) : G Γ zRL cL_law 9 RL ad (mm (z_d Γ) ad P T (zXl (z_d Γ) w wd)) nc ns 1778 (zLv ad b i) [] := by
  show G Γ zRL cL_law 9 RL ad (mm (z_d Γ) ad P T (zXl (z_d Γ) w wd)) nc ns 1778 [(5, .int (zI i)), (0, .ref b), (1, .ref (ad (0, 0, 0, 0))), (2, .ref (ad (40, 0, 0, 0))), (3, .ref (ad (82, 0, 0, 0))), (4, .ref (ad (83, 0, 0, 0)))] []
  refine G_aload_n (pc := 1778) 1 2 dL_law_1778 rfl rfl ?_
  refine G_aload_n (pc := 1779) 0 1 dL_law_1779 rfl rfl ?_
  refine G_iload (pc := 1780) 0 dL_law_1780 rfl ?_
  refine G_iconst (pc := 1782) dL_law_1782 ?_
  refine G_iadd (pc := 1783) dL_law_1783 ?_
  refine G_sld (pc := 1784) (v := p1) hX dL_law_1784 ⟨by omega, by omega, by omega, by omega⟩ hx1 ?_
  refine G_aload_n (pc := 1785) 0 1 dL_law_1785 rfl rfl ?_
  refine G_iload (pc := 1786) 0 dL_law_1786 rfl ?_
  refine G_iconst (pc := 1788) dL_law_1788 ?_
  refine G_iadd (pc := 1789) dL_law_1789 ?_
  refine G_sld (pc := 1790) (v := p2) hX dL_law_1790 ⟨by omega, by omega, by omega, by omega⟩ hx2 ?_
  refine G_aload_n (pc := 1791) 3 4 dL_law_1791 rfl rfl ?_
  obtain ⟨d1, mc1, ms1, hr1, hm1⟩ := s_cursor (l := z_l Γ) (Δ := z_d Γ) (g := p1) (p := p2) hst hp1 hp2 P T j w wd ad hJ hj hj2
  have hr1' : d1 ≤ 11 ∧ mc1 ≤ 50 ∧ ms1 ≤ 1300 := hr1
  refine G_callH (pc := 1792) hNc hk_cursor dL_law_1792 hm1 rfl rfl (Nat.le_of_ble_eq_true rfl) ⟨⟨by show d1 + 1 ≤ 12; omega, by show 8 + (5 + 11) + 38 * d1 ≤ 462; omega⟩, by show nc + mc1 ≤ 601024; omega, by show ns + ms1 ≤ 7293034; omega⟩ (fun v1 ad1 M1 hpo => ?_)
  obtain ⟨k, P1, T1, w1, rfl, hk, rfl, ⟨a0, a40, a82, a83⟩, d2, mc2, ms2, hr2, hm2⟩ := hpo
  have hr2' : d2 ≤ 11 ∧ mc2 ≤ 650 ∧ ms2 ≤ 6000 := hr2
  rw [← a0, ← a40, ← a82, ← a83]
  refine G_istore (pc := 1795) [(6, .int (zI k)), (5, .int (zI i)), (0, .ref b), (1, .ref (ad1 (0, 0, 0, 0))), (2, .ref (ad1 (40, 0, 0, 0))), (3, .ref (ad1 (82, 0, 0, 0))), (4, .ref (ad1 (83, 0, 0, 0)))] dL_law_1795 (by decide) rfl ?_
  refine G_aload_n (pc := 1797) 2 4 dL_law_1797 rfl rfl ?_
  refine G_aload_n (pc := 1798) 0 2 dL_law_1798 rfl rfl ?_
  refine G_iload (pc := 1799) 1 dL_law_1799 rfl ?_
  refine G_iconst (pc := 1801) dL_law_1801 ?_
  refine G_iadd (pc := 1802) dL_law_1802 ?_
  refine G_sld (pc := 1803) (v := p1) hX dL_law_1803 ⟨by omega, by omega, by omega, by omega⟩ hx1 ?_
  refine G_aload_n (pc := 1804) 0 2 dL_law_1804 rfl rfl ?_
  refine G_iload (pc := 1805) 1 dL_law_1805 rfl ?_
  refine G_iconst (pc := 1807) dL_law_1807 ?_
  refine G_iadd (pc := 1808) dL_law_1808 ?_
  refine G_sld (pc := 1809) (v := p2) hX dL_law_1809 ⟨by omega, by omega, by omega, by omega⟩ hx2 ?_
  refine G_callV (pc := 1810) gk_L_213 dL_law_1810 mg_40 rfl hm2 rfl rfl (Nat.le_of_ble_eq_true rfl) ⟨⟨by show d2 + 1 ≤ 12; omega, by show 8 + (3 + 11) + 38 * d2 ≤ 462; omega⟩, by show nc + mc1 + mc2 ≤ 601024; omega, by show ns + ms1 + ms2 ≤ 7293034; omega⟩ (fun v2 ad2 M2 hpo => ?_)
  obtain ⟨b', P2, T2, rfl, hb', rfl, ⟨c0, c40, c82, c83⟩, ek, ew, hJ2, hj3⟩ := hpo
  rw [← c0, ← c40, ← c82, ← c83]
  have hk2 : zKp ad ad2 := ⟨c0.trans a0, c40.trans a40, c82.trans a82, c83.trans a83⟩
  refine G_istore (pc := 1813) [(7, .int (zI b')), (6, .int (zI k)), (5, .int (zI i)), (0, .ref b), (1, .ref (ad2 (0, 0, 0, 0))), (2, .ref (ad2 (40, 0, 0, 0))), (3, .ref (ad2 (82, 0, 0, 0))), (4, .ref (ad2 (83, 0, 0, 0)))] dL_law_1813 (by decide) rfl ?_
  refine G_aload_n (pc := 1815) 2 5 dL_law_1815 rfl rfl ?_
  refine G_callVd (pc := 1816) gk_L_129 dL_law_1816 mg_40 rfl (c_X7_thrown (Q := P2) hJ2.2.2.2.2.2.1) rfl rfl (Nat.le_of_ble_eq_true rfl) ⟨⟨Nat.le_of_ble_eq_true rfl, Nat.le_of_ble_eq_true rfl⟩, by show nc + mc1 + mc2 + 0 ≤ 601024; omega, by show ns + ms1 + ms2 + 0 ≤ 7293034; omega⟩ ?_
  rw [ek]
  refine G_iload (pc := 1819) 1 dL_law_1819 rfl ?_
  refine G_icmp_eq (pc := 1821) 1826 dL_law_1821 (by decide) ⟨by omega, by omega⟩ ⟨by omega, by omega⟩ (fun _ => ?_) (fun q => absurd rfl q)
  refine G_iload (pc := 1826) 1 dL_law_1826 rfl ?_
  have hfin : ∀ X9 : zK → Nat, X9 = ad2 → G Γ zRL cL_law 9 RL X9 (mm (z_d Γ) X9 P2 T2 (zXl (z_d Γ) w1 wd)) (nc + mc1 + mc2) (ns + ms1 + ms2) 1843 [(7, .int (zI b')), (6, .int (zI k)), (5, .int (zI i)), (0, .ref b), (1, .ref (X9 (0, 0, 0, 0))), (2, .ref (X9 (40, 0, 0, 0))), (3, .ref (X9 (82, 0, 0, 0))), (4, .ref (X9 (83, 0, 0, 0)))] [] := by
    intro X9 e9
    subst e9
    refine G_goto (pc := 1843) 2562 dL_law_1843 (by decide) ?_
    refine G_perm (lv' := zLv X9 b i) [2, 3, 4, 5, 6, 7] rfl ?_
    exact G_more (by omega) (by omega) (kk P2 T2 _ _ X9 hJ2 hj3 hk2)
  refine G_if_ne (pc := 1828) 1843 dL_law_1828 (by decide) ⟨by omega, by omega⟩ (fun _ => hfin ad2 rfl) (fun e0 => ?_)
  refine G_aload_n (pc := 1831) 3 6 dL_law_1831 rfl rfl ?_
  refine G_iconst (pc := 1832) dL_law_1832 ?_
  refine G_lald (pc := 1833) dL_law_1833 zXl_82 ?_
  refine G_iload (pc := 1834) 0 dL_law_1834 rfl ?_
  refine G_i2l (pc := 1836) dL_law_1836 hb' ?_
  rw [ew e0]
  refine G_lcmpE (pc := 1837) dL_law_1837 ?_
  refine G_if_eq (pc := 1838) 1843 dL_law_1838 (by decide) zR_0 (fun _ => ?_) (fun q => absurd rfl q)
  have h9 := hfin ad2 rfl
  rw [ew e0] at h9
  exact h9
set_option maxHeartbeats 1000000 in
set_option maxRecDepth 100000 in
theorem w_25 {Γ : zCx} {b L : Nat} {xs : Nat → Int32} {P : zP} {T : zS} {i j : Int} {w : Int64} {wd : UInt64} {ad : zK → Nat} {nc ns : Nat} (hst : (z_l Γ).stackTraces = false) (hNc : zNc (z_s Γ)) (hX : zSc Γ b L xs) (hi : 0 ≤ i ∧ i + 6 ≤ L ∧ L ≤ 3072) (hc : nc + 700 ≤ 601024 ∧ ns + 7300 ≤ 7293034) {p1 : Int} (hp1 : zR p1) (hx1 : xs (i + 1).toNat = zI p1) {p2 : Int} (hp2 : zR p2) (hx2 : xs (i + 2).toNat = zI p2) {p3 : Int} (hp3 : zR p3) (hx3 : xs (i + 3).toNat = zI p3) (hJ : xJ P T T) (hj : T (0, 0, 0, 0) 4 ≤ j) (hj2 : j ≤ 512) (kk : zKn Γ b i j nc ns ad) : G Γ zRL cL_law 9 RL ad (mm (z_d Γ) ad P T (zXl (z_d Γ) w wd)) nc ns 1846 (zLv ad b i) [] := by
  show G Γ zRL cL_law 9 RL ad (mm (z_d Γ) ad P T (zXl (z_d Γ) w wd)) nc ns 1846 [(5, .int (zI i)), (0, .ref b), (1, .ref (ad (0, 0, 0, 0))), (2, .ref (ad (40, 0, 0, 0))), (3, .ref (ad (82, 0, 0, 0))), (4, .ref (ad (83, 0, 0, 0)))] []
  refine G_aload_n (pc := 1846) 1 2 dL_law_1846 rfl rfl ?_
  refine G_aload_n (pc := 1847) 0 1 dL_law_1847 rfl rfl ?_
  refine G_iload (pc := 1848) 0 dL_law_1848 rfl ?_
  refine G_iconst (pc := 1850) dL_law_1850 ?_
  refine G_iadd (pc := 1851) dL_law_1851 ?_
  refine G_sld (pc := 1852) (v := p1) hX dL_law_1852 ⟨by omega, by omega, by omega, by omega⟩ hx1 ?_
  refine G_aload_n (pc := 1853) 0 1 dL_law_1853 rfl rfl ?_
  refine G_iload (pc := 1854) 0 dL_law_1854 rfl ?_
  refine G_iconst (pc := 1856) dL_law_1856 ?_
  refine G_iadd (pc := 1857) dL_law_1857 ?_
  refine G_sld (pc := 1858) (v := p2) hX dL_law_1858 ⟨by omega, by omega, by omega, by omega⟩ hx2 ?_
  refine G_aload_n (pc := 1859) 0 1 dL_law_1859 rfl rfl ?_
  refine G_iload (pc := 1860) 0 dL_law_1860 rfl ?_
  refine G_iconst (pc := 1862) dL_law_1862 ?_
  refine G_iadd (pc := 1863) dL_law_1863 ?_
  refine G_sld (pc := 1864) (v := p3) hX dL_law_1864 ⟨by omega, by omega, by omega, by omega⟩ hx3 ?_
  refine G_aload_n (pc := 1865) 3 4 dL_law_1865 rfl rfl ?_
  obtain ⟨d1, mc1, ms1, hr1, hm1⟩ := s_state (l := z_l Γ) (Δ := z_d Γ) (g := p1) (p := p2) (o := p3) hst hp1 hp2 hp3 P T j w wd ad hJ hj hj2
  have hr1' : d1 ≤ 11 ∧ mc1 ≤ 50 ∧ ms1 ≤ 1300 := hr1
  refine G_callH (pc := 1866) hNc hk_state dL_law_1866 hm1 rfl rfl (Nat.le_of_ble_eq_true rfl) ⟨⟨by show d1 + 1 ≤ 12; omega, by show 8 + (6 + 11) + 38 * d1 ≤ 462; omega⟩, by show nc + mc1 ≤ 601024; omega, by show ns + ms1 ≤ 7293034; omega⟩ (fun v1 ad1 M1 hpo => ?_)
  obtain ⟨k, P1, T1, w1, rfl, hk, rfl, ⟨a0, a40, a82, a83⟩, d2, mc2, ms2, hr2, hm2⟩ := hpo
  have hr2' : d2 ≤ 11 ∧ mc2 ≤ 650 ∧ ms2 ≤ 6000 := hr2
  rw [← a0, ← a40, ← a82, ← a83]
  refine G_istore (pc := 1869) [(6, .int (zI k)), (5, .int (zI i)), (0, .ref b), (1, .ref (ad1 (0, 0, 0, 0))), (2, .ref (ad1 (40, 0, 0, 0))), (3, .ref (ad1 (82, 0, 0, 0))), (4, .ref (ad1 (83, 0, 0, 0)))] dL_law_1869 (by decide) rfl ?_
  refine G_aload_n (pc := 1871) 2 4 dL_law_1871 rfl rfl ?_
  refine G_aload_n (pc := 1872) 0 2 dL_law_1872 rfl rfl ?_
  refine G_iload (pc := 1873) 1 dL_law_1873 rfl ?_
  refine G_iconst (pc := 1875) dL_law_1875 ?_
  refine G_iadd (pc := 1876) dL_law_1876 ?_
  refine G_sld (pc := 1877) (v := p1) hX dL_law_1877 ⟨by omega, by omega, by omega, by omega⟩ hx1 ?_
  refine G_aload_n (pc := 1878) 0 2 dL_law_1878 rfl rfl ?_
  refine G_iload (pc := 1879) 1 dL_law_1879 rfl ?_
  refine G_iconst (pc := 1881) dL_law_1881 ?_
  refine G_iadd (pc := 1882) dL_law_1882 ?_
  refine G_sld (pc := 1883) (v := p2) hX dL_law_1883 ⟨by omega, by omega, by omega, by omega⟩ hx2 ?_
  refine G_aload_n (pc := 1884) 0 2 dL_law_1884 rfl rfl ?_
  refine G_iload (pc := 1885) 1 dL_law_1885 rfl ?_
  refine G_iconst (pc := 1887) dL_law_1887 ?_
  refine G_iadd (pc := 1888) dL_law_1888 ?_
  refine G_sld (pc := 1889) (v := p3) hX dL_law_1889 ⟨by omega, by omega, by omega, by omega⟩ hx3 ?_
  refine G_callV (pc := 1890) gk_L_216 dL_law_1890 mg_40 rfl hm2 rfl rfl (Nat.le_of_ble_eq_true rfl) ⟨⟨by show d2 + 1 ≤ 12; omega, by show 8 + (4 + 11) + 38 * d2 ≤ 462; omega⟩, by show nc + mc1 + mc2 ≤ 601024; omega, by show ns + ms1 + ms2 ≤ 7293034; omega⟩ (fun v2 ad2 M2 hpo => ?_)
  obtain ⟨b', P2, T2, rfl, hb', rfl, ⟨c0, c40, c82, c83⟩, ek, ew, hJ2, hj3⟩ := hpo
  rw [← c0, ← c40, ← c82, ← c83]
  have hk2 : zKp ad ad2 := ⟨c0.trans a0, c40.trans a40, c82.trans a82, c83.trans a83⟩
  refine G_istore (pc := 1893) [(7, .int (zI b')), (6, .int (zI k)), (5, .int (zI i)), (0, .ref b), (1, .ref (ad2 (0, 0, 0, 0))), (2, .ref (ad2 (40, 0, 0, 0))), (3, .ref (ad2 (82, 0, 0, 0))), (4, .ref (ad2 (83, 0, 0, 0)))] dL_law_1893 (by decide) rfl ?_
  refine G_aload_n (pc := 1895) 2 5 dL_law_1895 rfl rfl ?_
  refine G_callVd (pc := 1896) gk_L_129 dL_law_1896 mg_40 rfl (c_X7_thrown (Q := P2) hJ2.2.2.2.2.2.1) rfl rfl (Nat.le_of_ble_eq_true rfl) ⟨⟨Nat.le_of_ble_eq_true rfl, Nat.le_of_ble_eq_true rfl⟩, by show nc + mc1 + mc2 + 0 ≤ 601024; omega, by show ns + ms1 + ms2 + 0 ≤ 7293034; omega⟩ ?_
  rw [ek]
  refine G_iload (pc := 1899) 1 dL_law_1899 rfl ?_
  refine G_icmp_eq (pc := 1901) 1906 dL_law_1901 (by decide) ⟨by omega, by omega⟩ ⟨by omega, by omega⟩ (fun _ => ?_) (fun q => absurd rfl q)
  refine G_iload (pc := 1906) 1 dL_law_1906 rfl ?_
  have hfin : ∀ X9 : zK → Nat, X9 = ad2 → G Γ zRL cL_law 9 RL X9 (mm (z_d Γ) X9 P2 T2 (zXl (z_d Γ) w1 wd)) (nc + mc1 + mc2) (ns + ms1 + ms2) 1923 [(7, .int (zI b')), (6, .int (zI k)), (5, .int (zI i)), (0, .ref b), (1, .ref (X9 (0, 0, 0, 0))), (2, .ref (X9 (40, 0, 0, 0))), (3, .ref (X9 (82, 0, 0, 0))), (4, .ref (X9 (83, 0, 0, 0)))] [] := by
    intro X9 e9
    subst e9
    refine G_goto (pc := 1923) 2562 dL_law_1923 (by decide) ?_
    refine G_perm (lv' := zLv X9 b i) [2, 3, 4, 5, 6, 7] rfl ?_
    exact G_more (by omega) (by omega) (kk P2 T2 _ _ X9 hJ2 hj3 hk2)
  refine G_if_ne (pc := 1908) 1923 dL_law_1908 (by decide) ⟨by omega, by omega⟩ (fun _ => hfin ad2 rfl) (fun e0 => ?_)
  refine G_aload_n (pc := 1911) 3 6 dL_law_1911 rfl rfl ?_
  refine G_iconst (pc := 1912) dL_law_1912 ?_
  refine G_lald (pc := 1913) dL_law_1913 zXl_82 ?_
  refine G_iload (pc := 1914) 0 dL_law_1914 rfl ?_
  refine G_i2l (pc := 1916) dL_law_1916 hb' ?_
  rw [ew e0]
  refine G_lcmpE (pc := 1917) dL_law_1917 ?_
  refine G_if_eq (pc := 1918) 1923 dL_law_1918 (by decide) zR_0 (fun _ => ?_) (fun q => absurd rfl q)
  have h9 := hfin ad2 rfl
  rw [ew e0] at h9
  exact h9
set_option maxHeartbeats 1000000 in
set_option maxRecDepth 100000 in
theorem w_26 {Γ : zCx} {b L : Nat} {xs : Nat → Int32} {P : zP} {T : zS} {i j : Int} {w : Int64} {wd : UInt64} {ad : zK → Nat} {nc ns : Nat} (hst : (z_l Γ).stackTraces = false) (hNc : zNc (z_s Γ)) (hX : zSc Γ b L xs) (hi : 0 ≤ i ∧ i + 6 ≤ L ∧ L ≤ 3072) (hc : nc + 700 ≤ 601024 ∧ ns + 7300 ≤ 7293034) {p1 : Int} (hp1 : zR p1) (hx1 : xs (i + 1).toNat = zI p1) {p2 : Int} (hp2 : zR p2) (hx2 : xs (i + 2).toNat = zI p2) {p3 : Int} (hp3 : zR p3) (hx3 : xs (i + 3).toNat = zI p3) (hJ : xJ P T T) (hj : T (0, 0, 0, 0) 4 ≤ j) (hj2 : j ≤ 512) (kk : zKn Γ b i j nc ns ad) : G Γ zRL cL_law 9 RL ad (mm (z_d Γ) ad P T (zXl (z_d Γ) w wd)) nc ns 1926 (zLv ad b i) [] := by
  show G Γ zRL cL_law 9 RL ad (mm (z_d Γ) ad P T (zXl (z_d Γ) w wd)) nc ns 1926 [(5, .int (zI i)), (0, .ref b), (1, .ref (ad (0, 0, 0, 0))), (2, .ref (ad (40, 0, 0, 0))), (3, .ref (ad (82, 0, 0, 0))), (4, .ref (ad (83, 0, 0, 0)))] []
  refine G_aload_n (pc := 1926) 1 2 dL_law_1926 rfl rfl ?_
  refine G_aload_n (pc := 1927) 0 1 dL_law_1927 rfl rfl ?_
  refine G_iload (pc := 1928) 0 dL_law_1928 rfl ?_
  refine G_iconst (pc := 1930) dL_law_1930 ?_
  refine G_iadd (pc := 1931) dL_law_1931 ?_
  refine G_sld (pc := 1932) (v := p1) hX dL_law_1932 ⟨by omega, by omega, by omega, by omega⟩ hx1 ?_
  refine G_aload_n (pc := 1933) 0 1 dL_law_1933 rfl rfl ?_
  refine G_iload (pc := 1934) 0 dL_law_1934 rfl ?_
  refine G_iconst (pc := 1936) dL_law_1936 ?_
  refine G_iadd (pc := 1937) dL_law_1937 ?_
  refine G_sld (pc := 1938) (v := p2) hX dL_law_1938 ⟨by omega, by omega, by omega, by omega⟩ hx2 ?_
  refine G_aload_n (pc := 1939) 0 1 dL_law_1939 rfl rfl ?_
  refine G_iload (pc := 1940) 0 dL_law_1940 rfl ?_
  refine G_iconst (pc := 1942) dL_law_1942 ?_
  refine G_iadd (pc := 1943) dL_law_1943 ?_
  refine G_sld (pc := 1944) (v := p3) hX dL_law_1944 ⟨by omega, by omega, by omega, by omega⟩ hx3 ?_
  refine G_aload_n (pc := 1945) 3 4 dL_law_1945 rfl rfl ?_
  obtain ⟨d1, mc1, ms1, hr1, hm1⟩ := s_tries (l := z_l Γ) (Δ := z_d Γ) (g := p1) (p := p2) (o := p3) hst hp1 hp2 hp3 P T j w wd ad hJ hj hj2
  have hr1' : d1 ≤ 11 ∧ mc1 ≤ 50 ∧ ms1 ≤ 1300 := hr1
  refine G_callH (pc := 1946) hNc hk_tries dL_law_1946 hm1 rfl rfl (Nat.le_of_ble_eq_true rfl) ⟨⟨by show d1 + 1 ≤ 12; omega, by show 8 + (6 + 11) + 38 * d1 ≤ 462; omega⟩, by show nc + mc1 ≤ 601024; omega, by show ns + ms1 ≤ 7293034; omega⟩ (fun v1 ad1 M1 hpo => ?_)
  obtain ⟨k, P1, T1, w1, rfl, hk, rfl, ⟨a0, a40, a82, a83⟩, d2, mc2, ms2, hr2, hm2⟩ := hpo
  have hr2' : d2 ≤ 11 ∧ mc2 ≤ 650 ∧ ms2 ≤ 6000 := hr2
  rw [← a0, ← a40, ← a82, ← a83]
  refine G_istore (pc := 1949) [(6, .int (zI k)), (5, .int (zI i)), (0, .ref b), (1, .ref (ad1 (0, 0, 0, 0))), (2, .ref (ad1 (40, 0, 0, 0))), (3, .ref (ad1 (82, 0, 0, 0))), (4, .ref (ad1 (83, 0, 0, 0)))] dL_law_1949 (by decide) rfl ?_
  refine G_aload_n (pc := 1951) 2 4 dL_law_1951 rfl rfl ?_
  refine G_aload_n (pc := 1952) 0 2 dL_law_1952 rfl rfl ?_
  refine G_iload (pc := 1953) 1 dL_law_1953 rfl ?_
  refine G_iconst (pc := 1955) dL_law_1955 ?_
  refine G_iadd (pc := 1956) dL_law_1956 ?_
  refine G_sld (pc := 1957) (v := p1) hX dL_law_1957 ⟨by omega, by omega, by omega, by omega⟩ hx1 ?_
  refine G_aload_n (pc := 1958) 0 2 dL_law_1958 rfl rfl ?_
  refine G_iload (pc := 1959) 1 dL_law_1959 rfl ?_
  refine G_iconst (pc := 1961) dL_law_1961 ?_
  refine G_iadd (pc := 1962) dL_law_1962 ?_
  refine G_sld (pc := 1963) (v := p2) hX dL_law_1963 ⟨by omega, by omega, by omega, by omega⟩ hx2 ?_
  refine G_aload_n (pc := 1964) 0 2 dL_law_1964 rfl rfl ?_
  refine G_iload (pc := 1965) 1 dL_law_1965 rfl ?_
  refine G_iconst (pc := 1967) dL_law_1967 ?_
  refine G_iadd (pc := 1968) dL_law_1968 ?_
  refine G_sld (pc := 1969) (v := p3) hX dL_law_1969 ⟨by omega, by omega, by omega, by omega⟩ hx3 ?_
  refine G_callV (pc := 1970) gk_L_219 dL_law_1970 mg_40 rfl hm2 rfl rfl (Nat.le_of_ble_eq_true rfl) ⟨⟨by show d2 + 1 ≤ 12; omega, by show 8 + (4 + 11) + 38 * d2 ≤ 462; omega⟩, by show nc + mc1 + mc2 ≤ 601024; omega, by show ns + ms1 + ms2 ≤ 7293034; omega⟩ (fun v2 ad2 M2 hpo => ?_)
  obtain ⟨b', P2, T2, rfl, hb', rfl, ⟨c0, c40, c82, c83⟩, ek, ew, hJ2, hj3⟩ := hpo
  rw [← c0, ← c40, ← c82, ← c83]
  have hk2 : zKp ad ad2 := ⟨c0.trans a0, c40.trans a40, c82.trans a82, c83.trans a83⟩
  refine G_istore (pc := 1973) [(7, .int (zI b')), (6, .int (zI k)), (5, .int (zI i)), (0, .ref b), (1, .ref (ad2 (0, 0, 0, 0))), (2, .ref (ad2 (40, 0, 0, 0))), (3, .ref (ad2 (82, 0, 0, 0))), (4, .ref (ad2 (83, 0, 0, 0)))] dL_law_1973 (by decide) rfl ?_
  refine G_aload_n (pc := 1975) 2 5 dL_law_1975 rfl rfl ?_
  refine G_callVd (pc := 1976) gk_L_129 dL_law_1976 mg_40 rfl (c_X7_thrown (Q := P2) hJ2.2.2.2.2.2.1) rfl rfl (Nat.le_of_ble_eq_true rfl) ⟨⟨Nat.le_of_ble_eq_true rfl, Nat.le_of_ble_eq_true rfl⟩, by show nc + mc1 + mc2 + 0 ≤ 601024; omega, by show ns + ms1 + ms2 + 0 ≤ 7293034; omega⟩ ?_
  rw [ek]
  refine G_iload (pc := 1979) 1 dL_law_1979 rfl ?_
  refine G_icmp_eq (pc := 1981) 1986 dL_law_1981 (by decide) ⟨by omega, by omega⟩ ⟨by omega, by omega⟩ (fun _ => ?_) (fun q => absurd rfl q)
  refine G_iload (pc := 1986) 1 dL_law_1986 rfl ?_
  have hfin : ∀ X9 : zK → Nat, X9 = ad2 → G Γ zRL cL_law 9 RL X9 (mm (z_d Γ) X9 P2 T2 (zXl (z_d Γ) w1 wd)) (nc + mc1 + mc2) (ns + ms1 + ms2) 2003 [(7, .int (zI b')), (6, .int (zI k)), (5, .int (zI i)), (0, .ref b), (1, .ref (X9 (0, 0, 0, 0))), (2, .ref (X9 (40, 0, 0, 0))), (3, .ref (X9 (82, 0, 0, 0))), (4, .ref (X9 (83, 0, 0, 0)))] [] := by
    intro X9 e9
    subst e9
    refine G_goto (pc := 2003) 2562 dL_law_2003 (by decide) ?_
    refine G_perm (lv' := zLv X9 b i) [2, 3, 4, 5, 6, 7] rfl ?_
    exact G_more (by omega) (by omega) (kk P2 T2 _ _ X9 hJ2 hj3 hk2)
  refine G_if_ne (pc := 1988) 2003 dL_law_1988 (by decide) ⟨by omega, by omega⟩ (fun _ => hfin ad2 rfl) (fun e0 => ?_)
  refine G_aload_n (pc := 1991) 3 6 dL_law_1991 rfl rfl ?_
  refine G_iconst (pc := 1992) dL_law_1992 ?_
  refine G_lald (pc := 1993) dL_law_1993 zXl_82 ?_
  refine G_iload (pc := 1994) 0 dL_law_1994 rfl ?_
  refine G_i2l (pc := 1996) dL_law_1996 hb' ?_
  rw [ew e0]
  refine G_lcmpE (pc := 1997) dL_law_1997 ?_
  refine G_if_eq (pc := 1998) 2003 dL_law_1998 (by decide) zR_0 (fun _ => ?_) (fun q => absurd rfl q)
  have h9 := hfin ad2 rfl
  rw [ew e0] at h9
  exact h9
set_option maxHeartbeats 1000000 in
set_option maxRecDepth 100000 in
theorem w_27 {Γ : zCx} {b L : Nat} {xs : Nat → Int32} {P : zP} {T : zS} {i j : Int} {w : Int64} {wd : UInt64} {ad : zK → Nat} {nc ns : Nat} (hst : (z_l Γ).stackTraces = false) (hNc : zNc (z_s Γ)) (hX : zSc Γ b L xs) (hi : 0 ≤ i ∧ i + 6 ≤ L ∧ L ≤ 3072) (hc : nc + 700 ≤ 601024 ∧ ns + 7300 ≤ 7293034) {p1 : Int} (hp1 : zR p1) (hx1 : xs (i + 1).toNat = zI p1) {p2 : Int} (hp2 : zR p2) (hx2 : xs (i + 2).toNat = zI p2) (hJ : xJ P T T) (hj : T (0, 0, 0, 0) 4 ≤ j) (hj2 : j ≤ 512) (kk : zKn Γ b i j nc ns ad) : G Γ zRL cL_law 9 RL ad (mm (z_d Γ) ad P T (zXl (z_d Γ) w wd)) nc ns 2006 (zLv ad b i) [] := by
  show G Γ zRL cL_law 9 RL ad (mm (z_d Γ) ad P T (zXl (z_d Γ) w wd)) nc ns 2006 [(5, .int (zI i)), (0, .ref b), (1, .ref (ad (0, 0, 0, 0))), (2, .ref (ad (40, 0, 0, 0))), (3, .ref (ad (82, 0, 0, 0))), (4, .ref (ad (83, 0, 0, 0)))] []
  refine G_aload_n (pc := 2006) 1 2 dL_law_2006 rfl rfl ?_
  refine G_aload_n (pc := 2007) 0 1 dL_law_2007 rfl rfl ?_
  refine G_iload (pc := 2008) 0 dL_law_2008 rfl ?_
  refine G_iconst (pc := 2010) dL_law_2010 ?_
  refine G_iadd (pc := 2011) dL_law_2011 ?_
  refine G_sld (pc := 2012) (v := p1) hX dL_law_2012 ⟨by omega, by omega, by omega, by omega⟩ hx1 ?_
  refine G_aload_n (pc := 2013) 0 1 dL_law_2013 rfl rfl ?_
  refine G_iload (pc := 2014) 0 dL_law_2014 rfl ?_
  refine G_iconst (pc := 2016) dL_law_2016 ?_
  refine G_iadd (pc := 2017) dL_law_2017 ?_
  refine G_sld (pc := 2018) (v := p2) hX dL_law_2018 ⟨by omega, by omega, by omega, by omega⟩ hx2 ?_
  refine G_aload_n (pc := 2019) 3 4 dL_law_2019 rfl rfl ?_
  obtain ⟨d1, mc1, ms1, hr1, hm1⟩ := s_lag (l := z_l Γ) (Δ := z_d Γ) (g := p1) (p := p2) hst hp1 hp2 P T j w wd ad hJ hj hj2
  have hr1' : d1 ≤ 11 ∧ mc1 ≤ 50 ∧ ms1 ≤ 1300 := hr1
  refine G_callH (pc := 2020) hNc hk_lag dL_law_2020 hm1 rfl rfl (Nat.le_of_ble_eq_true rfl) ⟨⟨by show d1 + 1 ≤ 12; omega, by show 8 + (5 + 11) + 38 * d1 ≤ 462; omega⟩, by show nc + mc1 ≤ 601024; omega, by show ns + ms1 ≤ 7293034; omega⟩ (fun v1 ad1 M1 hpo => ?_)
  obtain ⟨k, P1, T1, w1, rfl, hk, rfl, ⟨a0, a40, a82, a83⟩, d2, mc2, ms2, hr2, hm2⟩ := hpo
  have hr2' : d2 ≤ 11 ∧ mc2 ≤ 650 ∧ ms2 ≤ 6000 := hr2
  rw [← a0, ← a40, ← a82, ← a83]
  refine G_istore (pc := 2023) [(6, .int (zI k)), (5, .int (zI i)), (0, .ref b), (1, .ref (ad1 (0, 0, 0, 0))), (2, .ref (ad1 (40, 0, 0, 0))), (3, .ref (ad1 (82, 0, 0, 0))), (4, .ref (ad1 (83, 0, 0, 0)))] dL_law_2023 (by decide) rfl ?_
  refine G_aload_n (pc := 2025) 2 4 dL_law_2025 rfl rfl ?_
  refine G_aload_n (pc := 2026) 0 2 dL_law_2026 rfl rfl ?_
  refine G_iload (pc := 2027) 1 dL_law_2027 rfl ?_
  refine G_iconst (pc := 2029) dL_law_2029 ?_
  refine G_iadd (pc := 2030) dL_law_2030 ?_
  refine G_sld (pc := 2031) (v := p1) hX dL_law_2031 ⟨by omega, by omega, by omega, by omega⟩ hx1 ?_
  refine G_aload_n (pc := 2032) 0 2 dL_law_2032 rfl rfl ?_
  refine G_iload (pc := 2033) 1 dL_law_2033 rfl ?_
  refine G_iconst (pc := 2035) dL_law_2035 ?_
  refine G_iadd (pc := 2036) dL_law_2036 ?_
  refine G_sld (pc := 2037) (v := p2) hX dL_law_2037 ⟨by omega, by omega, by omega, by omega⟩ hx2 ?_
  refine G_callV (pc := 2038) gk_L_222 dL_law_2038 mg_40 rfl hm2 rfl rfl (Nat.le_of_ble_eq_true rfl) ⟨⟨by show d2 + 1 ≤ 12; omega, by show 8 + (3 + 11) + 38 * d2 ≤ 462; omega⟩, by show nc + mc1 + mc2 ≤ 601024; omega, by show ns + ms1 + ms2 ≤ 7293034; omega⟩ (fun v2 ad2 M2 hpo => ?_)
  obtain ⟨b', P2, T2, rfl, hb', rfl, ⟨c0, c40, c82, c83⟩, ek, ew, hJ2, hj3⟩ := hpo
  rw [← c0, ← c40, ← c82, ← c83]
  have hk2 : zKp ad ad2 := ⟨c0.trans a0, c40.trans a40, c82.trans a82, c83.trans a83⟩
  refine G_istore (pc := 2041) [(7, .int (zI b')), (6, .int (zI k)), (5, .int (zI i)), (0, .ref b), (1, .ref (ad2 (0, 0, 0, 0))), (2, .ref (ad2 (40, 0, 0, 0))), (3, .ref (ad2 (82, 0, 0, 0))), (4, .ref (ad2 (83, 0, 0, 0)))] dL_law_2041 (by decide) rfl ?_
  refine G_aload_n (pc := 2043) 2 5 dL_law_2043 rfl rfl ?_
  refine G_callVd (pc := 2044) gk_L_129 dL_law_2044 mg_40 rfl (c_X7_thrown (Q := P2) hJ2.2.2.2.2.2.1) rfl rfl (Nat.le_of_ble_eq_true rfl) ⟨⟨Nat.le_of_ble_eq_true rfl, Nat.le_of_ble_eq_true rfl⟩, by show nc + mc1 + mc2 + 0 ≤ 601024; omega, by show ns + ms1 + ms2 + 0 ≤ 7293034; omega⟩ ?_
  rw [ek]
  refine G_iload (pc := 2047) 1 dL_law_2047 rfl ?_
  refine G_icmp_eq (pc := 2049) 2054 dL_law_2049 (by decide) ⟨by omega, by omega⟩ ⟨by omega, by omega⟩ (fun _ => ?_) (fun q => absurd rfl q)
  refine G_iload (pc := 2054) 1 dL_law_2054 rfl ?_
  have hfin : ∀ X9 : zK → Nat, X9 = ad2 → G Γ zRL cL_law 9 RL X9 (mm (z_d Γ) X9 P2 T2 (zXl (z_d Γ) w1 wd)) (nc + mc1 + mc2) (ns + ms1 + ms2) 2071 [(7, .int (zI b')), (6, .int (zI k)), (5, .int (zI i)), (0, .ref b), (1, .ref (X9 (0, 0, 0, 0))), (2, .ref (X9 (40, 0, 0, 0))), (3, .ref (X9 (82, 0, 0, 0))), (4, .ref (X9 (83, 0, 0, 0)))] [] := by
    intro X9 e9
    subst e9
    refine G_goto (pc := 2071) 2562 dL_law_2071 (by decide) ?_
    refine G_perm (lv' := zLv X9 b i) [2, 3, 4, 5, 6, 7] rfl ?_
    exact G_more (by omega) (by omega) (kk P2 T2 _ _ X9 hJ2 hj3 hk2)
  refine G_if_ne (pc := 2056) 2071 dL_law_2056 (by decide) ⟨by omega, by omega⟩ (fun _ => hfin ad2 rfl) (fun e0 => ?_)
  refine G_aload_n (pc := 2059) 3 6 dL_law_2059 rfl rfl ?_
  refine G_iconst (pc := 2060) dL_law_2060 ?_
  refine G_lald (pc := 2061) dL_law_2061 zXl_82 ?_
  refine G_iload (pc := 2062) 0 dL_law_2062 rfl ?_
  refine G_i2l (pc := 2064) dL_law_2064 hb' ?_
  rw [ew e0]
  refine G_lcmpE (pc := 2065) dL_law_2065 ?_
  refine G_if_eq (pc := 2066) 2071 dL_law_2066 (by decide) zR_0 (fun _ => ?_) (fun q => absurd rfl q)
  have h9 := hfin ad2 rfl
  rw [ew e0] at h9
  exact h9
set_option maxHeartbeats 1000000 in
set_option maxRecDepth 100000 in
theorem w_28 {Γ : zCx} {b L : Nat} {xs : Nat → Int32} {P : zP} {T : zS} {i j : Int} {w : Int64} {wd : UInt64} {ad : zK → Nat} {nc ns : Nat} (hst : (z_l Γ).stackTraces = false) (hNc : zNc (z_s Γ)) (hX : zSc Γ b L xs) (hi : 0 ≤ i ∧ i + 6 ≤ L ∧ L ≤ 3072) (hc : nc + 700 ≤ 601024 ∧ ns + 7300 ≤ 7293034) {p1 : Int} (hp1 : zR p1) (hx1 : xs (i + 1).toNat = zI p1) (hJ : xJ P T T) (hj : T (0, 0, 0, 0) 4 ≤ j) (hj2 : j ≤ 512) (kk : zKn Γ b i j nc ns ad) : G Γ zRL cL_law 9 RL ad (mm (z_d Γ) ad P T (zXl (z_d Γ) w wd)) nc ns 2074 (zLv ad b i) [] := by
  show G Γ zRL cL_law 9 RL ad (mm (z_d Γ) ad P T (zXl (z_d Γ) w wd)) nc ns 2074 [(5, .int (zI i)), (0, .ref b), (1, .ref (ad (0, 0, 0, 0))), (2, .ref (ad (40, 0, 0, 0))), (3, .ref (ad (82, 0, 0, 0))), (4, .ref (ad (83, 0, 0, 0)))] []
  refine G_aload_n (pc := 2074) 1 2 dL_law_2074 rfl rfl ?_
  refine G_aload_n (pc := 2075) 0 1 dL_law_2075 rfl rfl ?_
  refine G_iload (pc := 2076) 0 dL_law_2076 rfl ?_
  refine G_iconst (pc := 2078) dL_law_2078 ?_
  refine G_iadd (pc := 2079) dL_law_2079 ?_
  refine G_sld (pc := 2080) (v := p1) hX dL_law_2080 ⟨by omega, by omega, by omega, by omega⟩ hx1 ?_
  refine G_aload_n (pc := 2081) 3 4 dL_law_2081 rfl rfl ?_
  obtain ⟨d1, mc1, ms1, hr1, hm1⟩ := s_aside (l := z_l Γ) (Δ := z_d Γ) (g := p1) hst hp1 P T j w wd ad hJ hj hj2
  have hr1' : d1 ≤ 11 ∧ mc1 ≤ 50 ∧ ms1 ≤ 1300 := hr1
  refine G_callH (pc := 2082) hNc hk_aside dL_law_2082 hm1 rfl rfl (Nat.le_of_ble_eq_true rfl) ⟨⟨by show d1 + 1 ≤ 12; omega, by show 8 + (4 + 11) + 38 * d1 ≤ 462; omega⟩, by show nc + mc1 ≤ 601024; omega, by show ns + ms1 ≤ 7293034; omega⟩ (fun v1 ad1 M1 hpo => ?_)
  obtain ⟨k, P1, T1, w1, rfl, hk, rfl, ⟨a0, a40, a82, a83⟩, d2, mc2, ms2, hr2, hm2⟩ := hpo
  have hr2' : d2 ≤ 11 ∧ mc2 ≤ 650 ∧ ms2 ≤ 6000 := hr2
  rw [← a0, ← a40, ← a82, ← a83]
  refine G_istore (pc := 2085) [(6, .int (zI k)), (5, .int (zI i)), (0, .ref b), (1, .ref (ad1 (0, 0, 0, 0))), (2, .ref (ad1 (40, 0, 0, 0))), (3, .ref (ad1 (82, 0, 0, 0))), (4, .ref (ad1 (83, 0, 0, 0)))] dL_law_2085 (by decide) rfl ?_
  refine G_aload_n (pc := 2087) 2 4 dL_law_2087 rfl rfl ?_
  refine G_aload_n (pc := 2088) 0 2 dL_law_2088 rfl rfl ?_
  refine G_iload (pc := 2089) 1 dL_law_2089 rfl ?_
  refine G_iconst (pc := 2091) dL_law_2091 ?_
  refine G_iadd (pc := 2092) dL_law_2092 ?_
  refine G_sld (pc := 2093) (v := p1) hX dL_law_2093 ⟨by omega, by omega, by omega, by omega⟩ hx1 ?_
  refine G_callV (pc := 2094) gk_L_225 dL_law_2094 mg_40 rfl hm2 rfl rfl (Nat.le_of_ble_eq_true rfl) ⟨⟨by show d2 + 1 ≤ 12; omega, by show 8 + (2 + 11) + 38 * d2 ≤ 462; omega⟩, by show nc + mc1 + mc2 ≤ 601024; omega, by show ns + ms1 + ms2 ≤ 7293034; omega⟩ (fun v2 ad2 M2 hpo => ?_)
  obtain ⟨b', P2, T2, rfl, hb', rfl, ⟨c0, c40, c82, c83⟩, ek, ew, hJ2, hj3⟩ := hpo
  rw [← c0, ← c40, ← c82, ← c83]
  have hk2 : zKp ad ad2 := ⟨c0.trans a0, c40.trans a40, c82.trans a82, c83.trans a83⟩
  refine G_istore (pc := 2097) [(7, .int (zI b')), (6, .int (zI k)), (5, .int (zI i)), (0, .ref b), (1, .ref (ad2 (0, 0, 0, 0))), (2, .ref (ad2 (40, 0, 0, 0))), (3, .ref (ad2 (82, 0, 0, 0))), (4, .ref (ad2 (83, 0, 0, 0)))] dL_law_2097 (by decide) rfl ?_
  refine G_aload_n (pc := 2099) 2 5 dL_law_2099 rfl rfl ?_
  refine G_callVd (pc := 2100) gk_L_129 dL_law_2100 mg_40 rfl (c_X7_thrown (Q := P2) hJ2.2.2.2.2.2.1) rfl rfl (Nat.le_of_ble_eq_true rfl) ⟨⟨Nat.le_of_ble_eq_true rfl, Nat.le_of_ble_eq_true rfl⟩, by show nc + mc1 + mc2 + 0 ≤ 601024; omega, by show ns + ms1 + ms2 + 0 ≤ 7293034; omega⟩ ?_
  rw [ek]
  refine G_iload (pc := 2103) 1 dL_law_2103 rfl ?_
  refine G_icmp_eq (pc := 2105) 2110 dL_law_2105 (by decide) ⟨by omega, by omega⟩ ⟨by omega, by omega⟩ (fun _ => ?_) (fun q => absurd rfl q)
  refine G_iload (pc := 2110) 1 dL_law_2110 rfl ?_
  have hfin : ∀ X9 : zK → Nat, X9 = ad2 → G Γ zRL cL_law 9 RL X9 (mm (z_d Γ) X9 P2 T2 (zXl (z_d Γ) w1 wd)) (nc + mc1 + mc2) (ns + ms1 + ms2) 2127 [(7, .int (zI b')), (6, .int (zI k)), (5, .int (zI i)), (0, .ref b), (1, .ref (X9 (0, 0, 0, 0))), (2, .ref (X9 (40, 0, 0, 0))), (3, .ref (X9 (82, 0, 0, 0))), (4, .ref (X9 (83, 0, 0, 0)))] [] := by
    intro X9 e9
    subst e9
    refine G_goto (pc := 2127) 2562 dL_law_2127 (by decide) ?_
    refine G_perm (lv' := zLv X9 b i) [2, 3, 4, 5, 6, 7] rfl ?_
    exact G_more (by omega) (by omega) (kk P2 T2 _ _ X9 hJ2 hj3 hk2)
  refine G_if_ne (pc := 2112) 2127 dL_law_2112 (by decide) ⟨by omega, by omega⟩ (fun _ => hfin ad2 rfl) (fun e0 => ?_)
  refine G_aload_n (pc := 2115) 3 6 dL_law_2115 rfl rfl ?_
  refine G_iconst (pc := 2116) dL_law_2116 ?_
  refine G_lald (pc := 2117) dL_law_2117 zXl_82 ?_
  refine G_iload (pc := 2118) 0 dL_law_2118 rfl ?_
  refine G_i2l (pc := 2120) dL_law_2120 hb' ?_
  rw [ew e0]
  refine G_lcmpE (pc := 2121) dL_law_2121 ?_
  refine G_if_eq (pc := 2122) 2127 dL_law_2122 (by decide) zR_0 (fun _ => ?_) (fun q => absurd rfl q)
  have h9 := hfin ad2 rfl
  rw [ew e0] at h9
  exact h9
set_option maxHeartbeats 1000000 in
set_option maxRecDepth 100000 in
theorem w_29 {Γ : zCx} {b L : Nat} {xs : Nat → Int32} {P : zP} {T : zS} {i j : Int} {w : Int64} {wd : UInt64} {ad : zK → Nat} {nc ns : Nat} (hst : (z_l Γ).stackTraces = false) (hNc : zNc (z_s Γ)) (hX : zSc Γ b L xs) (hi : 0 ≤ i ∧ i + 6 ≤ L ∧ L ≤ 3072) (hc : nc + 700 ≤ 601024 ∧ ns + 7300 ≤ 7293034) {p1 : Int} (hp1 : zR p1) (hx1 : xs (i + 1).toNat = zI p1) (hJ : xJ P T T) (hj : T (0, 0, 0, 0) 4 ≤ j) (hj2 : j ≤ 512) (kk : zKn Γ b i j nc ns ad) : G Γ zRL cL_law 9 RL ad (mm (z_d Γ) ad P T (zXl (z_d Γ) w wd)) nc ns 2130 (zLv ad b i) [] := by
  show G Γ zRL cL_law 9 RL ad (mm (z_d Γ) ad P T (zXl (z_d Γ) w wd)) nc ns 2130 [(5, .int (zI i)), (0, .ref b), (1, .ref (ad (0, 0, 0, 0))), (2, .ref (ad (40, 0, 0, 0))), (3, .ref (ad (82, 0, 0, 0))), (4, .ref (ad (83, 0, 0, 0)))] []
  refine G_aload_n (pc := 2130) 1 2 dL_law_2130 rfl rfl ?_
  refine G_aload_n (pc := 2131) 0 1 dL_law_2131 rfl rfl ?_
  refine G_iload (pc := 2132) 0 dL_law_2132 rfl ?_
  refine G_iconst (pc := 2134) dL_law_2134 ?_
  refine G_iadd (pc := 2135) dL_law_2135 ?_
  refine G_sld (pc := 2136) (v := p1) hX dL_law_2136 ⟨by omega, by omega, by omega, by omega⟩ hx1 ?_
  refine G_aload (pc := 2137) 5 dL_law_2137 rfl ?_
  obtain ⟨d1, mc1, ms1, hr1, hm1⟩ := s_meanTries (l := z_l Γ) (Δ := z_d Γ) (g := p1) hst hp1 P T j w wd ad hJ hj hj2
  have hr1' : d1 ≤ 11 ∧ mc1 ≤ 50 ∧ ms1 ≤ 1300 := hr1
  refine G_callH (pc := 2139) hNc hk_meanTries dL_law_2139 hm1 rfl rfl (Nat.le_of_ble_eq_true rfl) ⟨⟨by show d1 + 1 ≤ 12; omega, by show 8 + (4 + 11) + 38 * d1 ≤ 462; omega⟩, by show nc + mc1 ≤ 601024; omega, by show ns + ms1 ≤ 7293034; omega⟩ (fun v1 ad1 M1 hpo => ?_)
  obtain ⟨k, P1, T1, wd1, rfl, hk, rfl, ⟨a0, a40, a82, a83⟩, d2, mc2, ms2, hr2, hm2⟩ := hpo
  have hr2' : d2 ≤ 11 ∧ mc2 ≤ 650 ∧ ms2 ≤ 6000 := hr2
  rw [← a0, ← a40, ← a82, ← a83]
  refine G_istore (pc := 2142) [(6, .int (zI k)), (5, .int (zI i)), (0, .ref b), (1, .ref (ad1 (0, 0, 0, 0))), (2, .ref (ad1 (40, 0, 0, 0))), (3, .ref (ad1 (82, 0, 0, 0))), (4, .ref (ad1 (83, 0, 0, 0)))] dL_law_2142 (by decide) rfl ?_
  refine G_aload_n (pc := 2144) 2 4 dL_law_2144 rfl rfl ?_
  refine G_aload_n (pc := 2145) 0 2 dL_law_2145 rfl rfl ?_
  refine G_iload (pc := 2146) 1 dL_law_2146 rfl ?_
  refine G_iconst (pc := 2148) dL_law_2148 ?_
  refine G_iadd (pc := 2149) dL_law_2149 ?_
  refine G_sld (pc := 2150) (v := p1) hX dL_law_2150 ⟨by omega, by omega, by omega, by omega⟩ hx1 ?_
  refine G_callV (pc := 2151) gk_L_229 dL_law_2151 mg_40 rfl hm2 rfl rfl (Nat.le_of_ble_eq_true rfl) ⟨⟨by show d2 + 1 ≤ 12; omega, by show 8 + (4 + 11) + 38 * d2 ≤ 462; omega⟩, by show nc + mc1 + mc2 ≤ 601024; omega, by show ns + ms1 + ms2 ≤ 7293034; omega⟩ (fun v2 ad2 M2 hpo => ?_)
  obtain ⟨b', P2, T2, rfl, rfl, ⟨c0, c40, c82, c83⟩, ek, ew, hJ2, hj3⟩ := hpo
  rw [← c0, ← c40, ← c82, ← c83]
  have hk2 : zKp ad ad2 := ⟨c0.trans a0, c40.trans a40, c82.trans a82, c83.trans a83⟩
  refine G_dstore (pc := 2154) [(7, .double b'), (6, .int (zI k)), (5, .int (zI i)), (0, .ref b), (1, .ref (ad2 (0, 0, 0, 0))), (2, .ref (ad2 (40, 0, 0, 0))), (3, .ref (ad2 (82, 0, 0, 0))), (4, .ref (ad2 (83, 0, 0, 0)))] dL_law_2154 (by decide) rfl ?_
  refine G_aload_n (pc := 2156) 2 5 dL_law_2156 rfl rfl ?_
  refine G_callVd (pc := 2157) gk_L_129 dL_law_2157 mg_40 rfl (c_X7_thrown (Q := P2) hJ2.2.2.2.2.2.1) rfl rfl (Nat.le_of_ble_eq_true rfl) ⟨⟨Nat.le_of_ble_eq_true rfl, Nat.le_of_ble_eq_true rfl⟩, by show nc + mc1 + mc2 + 0 ≤ 601024; omega, by show ns + ms1 + ms2 + 0 ≤ 7293034; omega⟩ ?_
  rw [ek]
  refine G_iload (pc := 2160) 1 dL_law_2160 rfl ?_
  refine G_icmp_eq (pc := 2162) 2167 dL_law_2162 (by decide) ⟨by omega, by omega⟩ ⟨by omega, by omega⟩ (fun _ => ?_) (fun q => absurd rfl q)
  refine G_iload (pc := 2167) 1 dL_law_2167 rfl ?_
  have hfin : ∀ X9 : zK → Nat, X9 = ad2 → G Γ zRL cL_law 9 RL X9 (mm (z_d Γ) X9 P2 T2 (zXl (z_d Γ) w wd1)) (nc + mc1 + mc2) (ns + ms1 + ms2) 2204 [(7, .double b'), (6, .int (zI k)), (5, .int (zI i)), (0, .ref b), (1, .ref (X9 (0, 0, 0, 0))), (2, .ref (X9 (40, 0, 0, 0))), (3, .ref (X9 (82, 0, 0, 0))), (4, .ref (X9 (83, 0, 0, 0)))] [] := by
    intro X9 e9
    subst e9
    refine G_goto (pc := 2204) 2562 dL_law_2204 (by decide) ?_
    refine G_perm (lv' := zLv X9 b i) [2, 3, 4, 5, 6, 7] rfl ?_
    exact G_more (by omega) (by omega) (kk P2 T2 _ _ X9 hJ2 hj3 hk2)
  refine G_if_ne (pc := 2169) 2204 dL_law_2169 (by decide) ⟨by omega, by omega⟩ (fun _ => hfin ad2 rfl) (fun e0 => ?_)
  refine G_aload (pc := 2172) 7 dL_law_2172 rfl ?_
  refine G_iconst (pc := 2174) dL_law_2174 ?_
  refine G_dald (pc := 2175) dL_law_2175 zXl_83 ?_
  refine G_dload (pc := 2176) 0 dL_law_2176 rfl ?_
  rw [ew e0]
  refine G_dcmpl (pc := 2178) dL_law_2178 (fun v0 hv0 ev0 => ?_)
  refine G_if_eq (pc := 2179) 2204 dL_law_2179 (by decide) hv0 (fun _ => ?_) (fun q0 => ?_)
  · have h9 := hfin ad2 rfl
    rw [ew e0] at h9
    exact h9
  refine G_aload (pc := 2182) 7 dL_law_2182 rfl ?_
  refine G_iconst (pc := 2184) dL_law_2184 ?_
  refine G_dald (pc := 2185) dL_law_2185 zXl_83 ?_
  refine G_aload (pc := 2186) 7 dL_law_2186 rfl ?_
  refine G_iconst (pc := 2188) dL_law_2188 ?_
  refine G_dald (pc := 2189) dL_law_2189 zXl_83 ?_
  refine G_dcmpl (pc := 2190) dL_law_2190 (fun v1 hv1 ev1 => ?_)
  obtain rfl : v0 = v1 := (zI_inj hv0 hv1).mp (ev0.symm.trans ev1)
  refine G_if_eq (pc := 2191) 2202 dL_law_2191 (by decide) hv0 (fun q => absurd q q0) (fun _ => ?_)
  refine G_dload (pc := 2194) 0 dL_law_2194 rfl ?_
  refine G_dload (pc := 2196) 0 dL_law_2196 rfl ?_
  refine G_dcmpl (pc := 2198) dL_law_2198 (fun v2 hv2 ev2 => ?_)
  obtain rfl : v0 = v2 := (zI_inj hv0 hv2).mp (ev0.symm.trans ev2)
  refine G_if_ne (pc := 2199) 2204 dL_law_2199 (by decide) hv0 (fun _ => ?_) (fun q => absurd q q0)
  have h9 := hfin ad2 rfl
  rw [ew e0] at h9
  exact h9
