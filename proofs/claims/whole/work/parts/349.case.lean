/-! ===== the law's cases, walked ===== -/
set_option maxHeartbeats 1000000 in
set_option maxRecDepth 100000 in
theorem w_10 {Γ : zCx} {b L : Nat} {xs : Nat → Int32} {P : zP} {T : zS} {i j : Int} {w : Int64} {wd : UInt64} {ad : zK → Nat} {nc ns : Nat} (hst : (z_l Γ).stackTraces = false) (hNc : zNc (z_s Γ)) (hX : zSc Γ b L xs) (hi : 0 ≤ i ∧ i + 6 ≤ L ∧ L ≤ 3072) (hc : nc + 700 ≤ 601024 ∧ ns + 7300 ≤ 7293034) {p1 : Int} (hp1 : zR p1) (hx1 : xs (i + 1).toNat = zI p1) {p2 : Int} (hp2 : zR p2) (hx2 : xs (i + 2).toNat = zI p2) (hJ : xJ P T T) (hj : T (0, 0, 0, 0) 4 ≤ j) (hj2 : j ≤ 512) (kk : zKn Γ b i j nc ns ad) : G Γ zRL cL_law 9 RL ad (mm (z_d Γ) ad P T (zXl (z_d Γ) w wd)) nc ns 810 (zLv ad b i) [] := by
  show G Γ zRL cL_law 9 RL ad (mm (z_d Γ) ad P T (zXl (z_d Γ) w wd)) nc ns 810 [(5, .int (zI i)), (0, .ref b), (1, .ref (ad (0, 0, 0, 0))), (2, .ref (ad (40, 0, 0, 0))), (3, .ref (ad (82, 0, 0, 0))), (4, .ref (ad (83, 0, 0, 0)))] []
  refine G_aload_n (pc := 810) 1 2 dL_law_810 rfl rfl ?_
  refine G_aload_n (pc := 811) 0 1 dL_law_811 rfl rfl ?_
  refine G_iload (pc := 812) 0 dL_law_812 rfl ?_
  refine G_iconst (pc := 814) dL_law_814 ?_
  refine G_iadd (pc := 815) dL_law_815 ?_
  refine G_sld (pc := 816) (v := p1) hX dL_law_816 ⟨by omega, by omega, by omega, by omega⟩ hx1 ?_
  refine G_aload_n (pc := 817) 0 1 dL_law_817 rfl rfl ?_
  refine G_iload (pc := 818) 0 dL_law_818 rfl ?_
  refine G_iconst (pc := 820) dL_law_820 ?_
  refine G_iadd (pc := 821) dL_law_821 ?_
  refine G_sld (pc := 822) (v := p2) hX dL_law_822 ⟨by omega, by omega, by omega, by omega⟩ hx2 ?_
  refine G_aload_n (pc := 823) 3 4 dL_law_823 rfl rfl ?_
  obtain ⟨d1, mc1, ms1, hr1, hm1⟩ := s_start (l := z_l Γ) (Δ := z_d Γ) (t := p1) (p := p2) hst hp1 hp2 P T j w wd ad hJ hj hj2
  have hr1' : d1 ≤ 11 ∧ mc1 ≤ 50 ∧ ms1 ≤ 1300 := hr1
  refine G_callH (pc := 824) hNc hk_start dL_law_824 hm1 rfl rfl (Nat.le_of_ble_eq_true rfl) ⟨⟨by show d1 + 1 ≤ 12; omega, by show 8 + (5 + 11) + 38 * d1 ≤ 462; omega⟩, by show nc + mc1 ≤ 601024; omega, by show ns + ms1 ≤ 7293034; omega⟩ (fun v1 ad1 M1 hpo => ?_)
  obtain ⟨k, P1, T1, w1, rfl, hk, rfl, ⟨a0, a40, a82, a83⟩, d2, mc2, ms2, hr2, hm2⟩ := hpo
  have hr2' : d2 ≤ 11 ∧ mc2 ≤ 650 ∧ ms2 ≤ 6000 := hr2
  rw [← a0, ← a40, ← a82, ← a83]
  refine G_istore (pc := 827) [(6, .int (zI k)), (5, .int (zI i)), (0, .ref b), (1, .ref (ad1 (0, 0, 0, 0))), (2, .ref (ad1 (40, 0, 0, 0))), (3, .ref (ad1 (82, 0, 0, 0))), (4, .ref (ad1 (83, 0, 0, 0)))] dL_law_827 (by decide) rfl ?_
  refine G_aload_n (pc := 829) 2 4 dL_law_829 rfl rfl ?_
  refine G_aload_n (pc := 830) 0 2 dL_law_830 rfl rfl ?_
  refine G_iload (pc := 831) 1 dL_law_831 rfl ?_
  refine G_iconst (pc := 833) dL_law_833 ?_
  refine G_iadd (pc := 834) dL_law_834 ?_
  refine G_sld (pc := 835) (v := p1) hX dL_law_835 ⟨by omega, by omega, by omega, by omega⟩ hx1 ?_
  refine G_aload_n (pc := 836) 0 2 dL_law_836 rfl rfl ?_
  refine G_iload (pc := 837) 1 dL_law_837 rfl ?_
  refine G_iconst (pc := 839) dL_law_839 ?_
  refine G_iadd (pc := 840) dL_law_840 ?_
  refine G_sld (pc := 841) (v := p2) hX dL_law_841 ⟨by omega, by omega, by omega, by omega⟩ hx2 ?_
  refine G_callV (pc := 842) gk_L_167 dL_law_842 mg_40 rfl hm2 rfl rfl (Nat.le_of_ble_eq_true rfl) ⟨⟨by show d2 + 1 ≤ 12; omega, by show 8 + (3 + 11) + 38 * d2 ≤ 462; omega⟩, by show nc + mc1 + mc2 ≤ 601024; omega, by show ns + ms1 + ms2 ≤ 7293034; omega⟩ (fun v2 ad2 M2 hpo => ?_)
  obtain ⟨b', P2, T2, rfl, hb', rfl, ⟨c0, c40, c82, c83⟩, ek, ew, hJ2, hj3⟩ := hpo
  rw [← c0, ← c40, ← c82, ← c83]
  have hk2 : zKp ad ad2 := ⟨c0.trans a0, c40.trans a40, c82.trans a82, c83.trans a83⟩
  refine G_istore (pc := 845) [(7, .int (zI b')), (6, .int (zI k)), (5, .int (zI i)), (0, .ref b), (1, .ref (ad2 (0, 0, 0, 0))), (2, .ref (ad2 (40, 0, 0, 0))), (3, .ref (ad2 (82, 0, 0, 0))), (4, .ref (ad2 (83, 0, 0, 0)))] dL_law_845 (by decide) rfl ?_
  refine G_aload_n (pc := 847) 2 5 dL_law_847 rfl rfl ?_
  refine G_callVd (pc := 848) gk_L_129 dL_law_848 mg_40 rfl (c_X7_thrown (Q := P2) hJ2.2.2.2.2.2.1) rfl rfl (Nat.le_of_ble_eq_true rfl) ⟨⟨Nat.le_of_ble_eq_true rfl, Nat.le_of_ble_eq_true rfl⟩, by show nc + mc1 + mc2 + 0 ≤ 601024; omega, by show ns + ms1 + ms2 + 0 ≤ 7293034; omega⟩ ?_
  rw [ek]
  refine G_iload (pc := 851) 1 dL_law_851 rfl ?_
  refine G_icmp_eq (pc := 853) 858 dL_law_853 (by decide) ⟨by omega, by omega⟩ ⟨by omega, by omega⟩ (fun _ => ?_) (fun q => absurd rfl q)
  refine G_iload (pc := 858) 1 dL_law_858 rfl ?_
  have hfin : ∀ X9 : zK → Nat, X9 = ad2 → G Γ zRL cL_law 9 RL X9 (mm (z_d Γ) X9 P2 T2 (zXl (z_d Γ) w1 wd)) (nc + mc1 + mc2) (ns + ms1 + ms2) 875 [(7, .int (zI b')), (6, .int (zI k)), (5, .int (zI i)), (0, .ref b), (1, .ref (X9 (0, 0, 0, 0))), (2, .ref (X9 (40, 0, 0, 0))), (3, .ref (X9 (82, 0, 0, 0))), (4, .ref (X9 (83, 0, 0, 0)))] [] := by
    intro X9 e9
    subst e9
    refine G_goto (pc := 875) 2562 dL_law_875 (by decide) ?_
    refine G_perm (lv' := zLv X9 b i) [2, 3, 4, 5, 6, 7] rfl ?_
    exact G_more (by omega) (by omega) (kk P2 T2 _ _ X9 hJ2 hj3 hk2)
  refine G_if_ne (pc := 860) 875 dL_law_860 (by decide) ⟨by omega, by omega⟩ (fun _ => hfin ad2 rfl) (fun e0 => ?_)
  refine G_aload_n (pc := 863) 3 6 dL_law_863 rfl rfl ?_
  refine G_iconst (pc := 864) dL_law_864 ?_
  refine G_lald (pc := 865) dL_law_865 zXl_82 ?_
  refine G_iload (pc := 866) 0 dL_law_866 rfl ?_
  refine G_i2l (pc := 868) dL_law_868 hb' ?_
  rw [ew e0]
  refine G_lcmpE (pc := 869) dL_law_869 ?_
  refine G_if_eq (pc := 870) 875 dL_law_870 (by decide) zR_0 (fun _ => ?_) (fun q => absurd rfl q)
  have h9 := hfin ad2 rfl
  rw [ew e0] at h9
  exact h9
set_option maxHeartbeats 1000000 in
set_option maxRecDepth 100000 in
theorem w_11 {Γ : zCx} {b L : Nat} {xs : Nat → Int32} {P : zP} {T : zS} {i j : Int} {w : Int64} {wd : UInt64} {ad : zK → Nat} {nc ns : Nat} (hst : (z_l Γ).stackTraces = false) (hNc : zNc (z_s Γ)) (hX : zSc Γ b L xs) (hi : 0 ≤ i ∧ i + 6 ≤ L ∧ L ≤ 3072) (hc : nc + 700 ≤ 601024 ∧ ns + 7300 ≤ 7293034) {p1 : Int} (hp1 : zR p1) (hx1 : xs (i + 1).toNat = zI p1) {p2 : Int} (hp2 : zR p2) (hx2 : xs (i + 2).toNat = zI p2) (hJ : xJ P T T) (hj : T (0, 0, 0, 0) 4 ≤ j) (hj2 : j ≤ 512) (kk : zKn Γ b i j nc ns ad) : G Γ zRL cL_law 9 RL ad (mm (z_d Γ) ad P T (zXl (z_d Γ) w wd)) nc ns 878 (zLv ad b i) [] := by
  show G Γ zRL cL_law 9 RL ad (mm (z_d Γ) ad P T (zXl (z_d Γ) w wd)) nc ns 878 [(5, .int (zI i)), (0, .ref b), (1, .ref (ad (0, 0, 0, 0))), (2, .ref (ad (40, 0, 0, 0))), (3, .ref (ad (82, 0, 0, 0))), (4, .ref (ad (83, 0, 0, 0)))] []
  refine G_aload_n (pc := 878) 1 2 dL_law_878 rfl rfl ?_
  refine G_aload_n (pc := 879) 0 1 dL_law_879 rfl rfl ?_
  refine G_iload (pc := 880) 0 dL_law_880 rfl ?_
  refine G_iconst (pc := 882) dL_law_882 ?_
  refine G_iadd (pc := 883) dL_law_883 ?_
  refine G_sld (pc := 884) (v := p1) hX dL_law_884 ⟨by omega, by omega, by omega, by omega⟩ hx1 ?_
  refine G_aload_n (pc := 885) 0 1 dL_law_885 rfl rfl ?_
  refine G_iload (pc := 886) 0 dL_law_886 rfl ?_
  refine G_iconst (pc := 888) dL_law_888 ?_
  refine G_iadd (pc := 889) dL_law_889 ?_
  refine G_sld (pc := 890) (v := p2) hX dL_law_890 ⟨by omega, by omega, by omega, by omega⟩ hx2 ?_
  refine G_aload_n (pc := 891) 3 4 dL_law_891 rfl rfl ?_
  obtain ⟨d1, mc1, ms1, hr1, hm1⟩ := s_endOf (l := z_l Γ) (Δ := z_d Γ) (t := p1) (p := p2) hst hp1 hp2 P T j w wd ad hJ hj hj2
  have hr1' : d1 ≤ 11 ∧ mc1 ≤ 50 ∧ ms1 ≤ 1300 := hr1
  refine G_callH (pc := 892) hNc hk_endOf dL_law_892 hm1 rfl rfl (Nat.le_of_ble_eq_true rfl) ⟨⟨by show d1 + 1 ≤ 12; omega, by show 8 + (5 + 11) + 38 * d1 ≤ 462; omega⟩, by show nc + mc1 ≤ 601024; omega, by show ns + ms1 ≤ 7293034; omega⟩ (fun v1 ad1 M1 hpo => ?_)
  obtain ⟨k, P1, T1, w1, rfl, hk, rfl, ⟨a0, a40, a82, a83⟩, d2, mc2, ms2, hr2, hm2⟩ := hpo
  have hr2' : d2 ≤ 11 ∧ mc2 ≤ 650 ∧ ms2 ≤ 6000 := hr2
  rw [← a0, ← a40, ← a82, ← a83]
  refine G_istore (pc := 895) [(6, .int (zI k)), (5, .int (zI i)), (0, .ref b), (1, .ref (ad1 (0, 0, 0, 0))), (2, .ref (ad1 (40, 0, 0, 0))), (3, .ref (ad1 (82, 0, 0, 0))), (4, .ref (ad1 (83, 0, 0, 0)))] dL_law_895 (by decide) rfl ?_
  refine G_aload_n (pc := 897) 2 4 dL_law_897 rfl rfl ?_
  refine G_aload_n (pc := 898) 0 2 dL_law_898 rfl rfl ?_
  refine G_iload (pc := 899) 1 dL_law_899 rfl ?_
  refine G_iconst (pc := 901) dL_law_901 ?_
  refine G_iadd (pc := 902) dL_law_902 ?_
  refine G_sld (pc := 903) (v := p1) hX dL_law_903 ⟨by omega, by omega, by omega, by omega⟩ hx1 ?_
  refine G_aload_n (pc := 904) 0 2 dL_law_904 rfl rfl ?_
  refine G_iload (pc := 905) 1 dL_law_905 rfl ?_
  refine G_iconst (pc := 907) dL_law_907 ?_
  refine G_iadd (pc := 908) dL_law_908 ?_
  refine G_sld (pc := 909) (v := p2) hX dL_law_909 ⟨by omega, by omega, by omega, by omega⟩ hx2 ?_
  refine G_callV (pc := 910) gk_L_170 dL_law_910 mg_40 rfl hm2 rfl rfl (Nat.le_of_ble_eq_true rfl) ⟨⟨by show d2 + 1 ≤ 12; omega, by show 8 + (3 + 11) + 38 * d2 ≤ 462; omega⟩, by show nc + mc1 + mc2 ≤ 601024; omega, by show ns + ms1 + ms2 ≤ 7293034; omega⟩ (fun v2 ad2 M2 hpo => ?_)
  obtain ⟨b', P2, T2, rfl, hb', rfl, ⟨c0, c40, c82, c83⟩, ek, ew, hJ2, hj3⟩ := hpo
  rw [← c0, ← c40, ← c82, ← c83]
  have hk2 : zKp ad ad2 := ⟨c0.trans a0, c40.trans a40, c82.trans a82, c83.trans a83⟩
  refine G_istore (pc := 913) [(7, .int (zI b')), (6, .int (zI k)), (5, .int (zI i)), (0, .ref b), (1, .ref (ad2 (0, 0, 0, 0))), (2, .ref (ad2 (40, 0, 0, 0))), (3, .ref (ad2 (82, 0, 0, 0))), (4, .ref (ad2 (83, 0, 0, 0)))] dL_law_913 (by decide) rfl ?_
  refine G_aload_n (pc := 915) 2 5 dL_law_915 rfl rfl ?_
  refine G_callVd (pc := 916) gk_L_129 dL_law_916 mg_40 rfl (c_X7_thrown (Q := P2) hJ2.2.2.2.2.2.1) rfl rfl (Nat.le_of_ble_eq_true rfl) ⟨⟨Nat.le_of_ble_eq_true rfl, Nat.le_of_ble_eq_true rfl⟩, by show nc + mc1 + mc2 + 0 ≤ 601024; omega, by show ns + ms1 + ms2 + 0 ≤ 7293034; omega⟩ ?_
  rw [ek]
  refine G_iload (pc := 919) 1 dL_law_919 rfl ?_
  refine G_icmp_eq (pc := 921) 926 dL_law_921 (by decide) ⟨by omega, by omega⟩ ⟨by omega, by omega⟩ (fun _ => ?_) (fun q => absurd rfl q)
  refine G_iload (pc := 926) 1 dL_law_926 rfl ?_
  have hfin : ∀ X9 : zK → Nat, X9 = ad2 → G Γ zRL cL_law 9 RL X9 (mm (z_d Γ) X9 P2 T2 (zXl (z_d Γ) w1 wd)) (nc + mc1 + mc2) (ns + ms1 + ms2) 943 [(7, .int (zI b')), (6, .int (zI k)), (5, .int (zI i)), (0, .ref b), (1, .ref (X9 (0, 0, 0, 0))), (2, .ref (X9 (40, 0, 0, 0))), (3, .ref (X9 (82, 0, 0, 0))), (4, .ref (X9 (83, 0, 0, 0)))] [] := by
    intro X9 e9
    subst e9
    refine G_goto (pc := 943) 2562 dL_law_943 (by decide) ?_
    refine G_perm (lv' := zLv X9 b i) [2, 3, 4, 5, 6, 7] rfl ?_
    exact G_more (by omega) (by omega) (kk P2 T2 _ _ X9 hJ2 hj3 hk2)
  refine G_if_ne (pc := 928) 943 dL_law_928 (by decide) ⟨by omega, by omega⟩ (fun _ => hfin ad2 rfl) (fun e0 => ?_)
  refine G_aload_n (pc := 931) 3 6 dL_law_931 rfl rfl ?_
  refine G_iconst (pc := 932) dL_law_932 ?_
  refine G_lald (pc := 933) dL_law_933 zXl_82 ?_
  refine G_iload (pc := 934) 0 dL_law_934 rfl ?_
  refine G_i2l (pc := 936) dL_law_936 hb' ?_
  rw [ew e0]
  refine G_lcmpE (pc := 937) dL_law_937 ?_
  refine G_if_eq (pc := 938) 943 dL_law_938 (by decide) zR_0 (fun _ => ?_) (fun q => absurd rfl q)
  have h9 := hfin ad2 rfl
  rw [ew e0] at h9
  exact h9
set_option maxHeartbeats 1000000 in
set_option maxRecDepth 100000 in
theorem w_12 {Γ : zCx} {b L : Nat} {xs : Nat → Int32} {P : zP} {T : zS} {i j : Int} {w : Int64} {wd : UInt64} {ad : zK → Nat} {nc ns : Nat} (hst : (z_l Γ).stackTraces = false) (hNc : zNc (z_s Γ)) (hX : zSc Γ b L xs) (hi : 0 ≤ i ∧ i + 6 ≤ L ∧ L ≤ 3072) (hc : nc + 700 ≤ 601024 ∧ ns + 7300 ≤ 7293034) {p1 : Int} (hp1 : zR p1) (hx1 : xs (i + 1).toNat = zI p1) {p2 : Int} (hp2 : zR p2) (hx2 : xs (i + 2).toNat = zI p2) (hJ : xJ P T T) (hj : T (0, 0, 0, 0) 4 ≤ j) (hj2 : j ≤ 512) (kk : zKn Γ b i j nc ns ad) : G Γ zRL cL_law 9 RL ad (mm (z_d Γ) ad P T (zXl (z_d Γ) w wd)) nc ns 946 (zLv ad b i) [] := by
  show G Γ zRL cL_law 9 RL ad (mm (z_d Γ) ad P T (zXl (z_d Γ) w wd)) nc ns 946 [(5, .int (zI i)), (0, .ref b), (1, .ref (ad (0, 0, 0, 0))), (2, .ref (ad (40, 0, 0, 0))), (3, .ref (ad (82, 0, 0, 0))), (4, .ref (ad (83, 0, 0, 0)))] []
  refine G_aload_n (pc := 946) 1 2 dL_law_946 rfl rfl ?_
  refine G_aload_n (pc := 947) 0 1 dL_law_947 rfl rfl ?_
  refine G_iload (pc := 948) 0 dL_law_948 rfl ?_
  refine G_iconst (pc := 950) dL_law_950 ?_
  refine G_iadd (pc := 951) dL_law_951 ?_
  refine G_sld (pc := 952) (v := p1) hX dL_law_952 ⟨by omega, by omega, by omega, by omega⟩ hx1 ?_
  refine G_aload_n (pc := 953) 0 1 dL_law_953 rfl rfl ?_
  refine G_iload (pc := 954) 0 dL_law_954 rfl ?_
  refine G_iconst (pc := 956) dL_law_956 ?_
  refine G_iadd (pc := 957) dL_law_957 ?_
  refine G_sld (pc := 958) (v := p2) hX dL_law_958 ⟨by omega, by omega, by omega, by omega⟩ hx2 ?_
  refine G_aload_n (pc := 959) 3 4 dL_law_959 rfl rfl ?_
  obtain ⟨d1, mc1, ms1, hr1, hm1⟩ := s_stable (l := z_l Γ) (Δ := z_d Γ) (t := p1) (p := p2) hst hp1 hp2 P T j w wd ad hJ hj hj2
  have hr1' : d1 ≤ 11 ∧ mc1 ≤ 50 ∧ ms1 ≤ 1300 := hr1
  refine G_callH (pc := 960) hNc hk_stable dL_law_960 hm1 rfl rfl (Nat.le_of_ble_eq_true rfl) ⟨⟨by show d1 + 1 ≤ 12; omega, by show 8 + (5 + 11) + 38 * d1 ≤ 462; omega⟩, by show nc + mc1 ≤ 601024; omega, by show ns + ms1 ≤ 7293034; omega⟩ (fun v1 ad1 M1 hpo => ?_)
  obtain ⟨k, P1, T1, w1, rfl, hk, rfl, ⟨a0, a40, a82, a83⟩, d2, mc2, ms2, hr2, hm2⟩ := hpo
  have hr2' : d2 ≤ 11 ∧ mc2 ≤ 650 ∧ ms2 ≤ 6000 := hr2
  rw [← a0, ← a40, ← a82, ← a83]
  refine G_istore (pc := 963) [(6, .int (zI k)), (5, .int (zI i)), (0, .ref b), (1, .ref (ad1 (0, 0, 0, 0))), (2, .ref (ad1 (40, 0, 0, 0))), (3, .ref (ad1 (82, 0, 0, 0))), (4, .ref (ad1 (83, 0, 0, 0)))] dL_law_963 (by decide) rfl ?_
  refine G_aload_n (pc := 965) 2 4 dL_law_965 rfl rfl ?_
  refine G_aload_n (pc := 966) 0 2 dL_law_966 rfl rfl ?_
  refine G_iload (pc := 967) 1 dL_law_967 rfl ?_
  refine G_iconst (pc := 969) dL_law_969 ?_
  refine G_iadd (pc := 970) dL_law_970 ?_
  refine G_sld (pc := 971) (v := p1) hX dL_law_971 ⟨by omega, by omega, by omega, by omega⟩ hx1 ?_
  refine G_aload_n (pc := 972) 0 2 dL_law_972 rfl rfl ?_
  refine G_iload (pc := 973) 1 dL_law_973 rfl ?_
  refine G_iconst (pc := 975) dL_law_975 ?_
  refine G_iadd (pc := 976) dL_law_976 ?_
  refine G_sld (pc := 977) (v := p2) hX dL_law_977 ⟨by omega, by omega, by omega, by omega⟩ hx2 ?_
  refine G_callV (pc := 978) gk_L_173 dL_law_978 mg_40 rfl hm2 rfl rfl (Nat.le_of_ble_eq_true rfl) ⟨⟨by show d2 + 1 ≤ 12; omega, by show 8 + (3 + 11) + 38 * d2 ≤ 462; omega⟩, by show nc + mc1 + mc2 ≤ 601024; omega, by show ns + ms1 + ms2 ≤ 7293034; omega⟩ (fun v2 ad2 M2 hpo => ?_)
  obtain ⟨b', P2, T2, rfl, hb', rfl, ⟨c0, c40, c82, c83⟩, ek, ew, hJ2, hj3⟩ := hpo
  rw [← c0, ← c40, ← c82, ← c83]
  have hk2 : zKp ad ad2 := ⟨c0.trans a0, c40.trans a40, c82.trans a82, c83.trans a83⟩
  refine G_istore (pc := 981) [(7, .int (zI b')), (6, .int (zI k)), (5, .int (zI i)), (0, .ref b), (1, .ref (ad2 (0, 0, 0, 0))), (2, .ref (ad2 (40, 0, 0, 0))), (3, .ref (ad2 (82, 0, 0, 0))), (4, .ref (ad2 (83, 0, 0, 0)))] dL_law_981 (by decide) rfl ?_
  refine G_aload_n (pc := 983) 2 5 dL_law_983 rfl rfl ?_
  refine G_callVd (pc := 984) gk_L_129 dL_law_984 mg_40 rfl (c_X7_thrown (Q := P2) hJ2.2.2.2.2.2.1) rfl rfl (Nat.le_of_ble_eq_true rfl) ⟨⟨Nat.le_of_ble_eq_true rfl, Nat.le_of_ble_eq_true rfl⟩, by show nc + mc1 + mc2 + 0 ≤ 601024; omega, by show ns + ms1 + ms2 + 0 ≤ 7293034; omega⟩ ?_
  rw [ek]
  refine G_iload (pc := 987) 1 dL_law_987 rfl ?_
  refine G_icmp_eq (pc := 989) 994 dL_law_989 (by decide) ⟨by omega, by omega⟩ ⟨by omega, by omega⟩ (fun _ => ?_) (fun q => absurd rfl q)
  refine G_iload (pc := 994) 1 dL_law_994 rfl ?_
  have hfin : ∀ X9 : zK → Nat, X9 = ad2 → G Γ zRL cL_law 9 RL X9 (mm (z_d Γ) X9 P2 T2 (zXl (z_d Γ) w1 wd)) (nc + mc1 + mc2) (ns + ms1 + ms2) 1011 [(7, .int (zI b')), (6, .int (zI k)), (5, .int (zI i)), (0, .ref b), (1, .ref (X9 (0, 0, 0, 0))), (2, .ref (X9 (40, 0, 0, 0))), (3, .ref (X9 (82, 0, 0, 0))), (4, .ref (X9 (83, 0, 0, 0)))] [] := by
    intro X9 e9
    subst e9
    refine G_goto (pc := 1011) 2562 dL_law_1011 (by decide) ?_
    refine G_perm (lv' := zLv X9 b i) [2, 3, 4, 5, 6, 7] rfl ?_
    exact G_more (by omega) (by omega) (kk P2 T2 _ _ X9 hJ2 hj3 hk2)
  refine G_if_ne (pc := 996) 1011 dL_law_996 (by decide) ⟨by omega, by omega⟩ (fun _ => hfin ad2 rfl) (fun e0 => ?_)
  refine G_aload_n (pc := 999) 3 6 dL_law_999 rfl rfl ?_
  refine G_iconst (pc := 1000) dL_law_1000 ?_
  refine G_lald (pc := 1001) dL_law_1001 zXl_82 ?_
  refine G_iload (pc := 1002) 0 dL_law_1002 rfl ?_
  refine G_i2l (pc := 1004) dL_law_1004 hb' ?_
  rw [ew e0]
  refine G_lcmpE (pc := 1005) dL_law_1005 ?_
  refine G_if_eq (pc := 1006) 1011 dL_law_1006 (by decide) zR_0 (fun _ => ?_) (fun q => absurd rfl q)
  have h9 := hfin ad2 rfl
  rw [ew e0] at h9
  exact h9
set_option maxHeartbeats 1000000 in
set_option maxRecDepth 100000 in
theorem w_13 {Γ : zCx} {b L : Nat} {xs : Nat → Int32} {P : zP} {T : zS} {i j : Int} {w : Int64} {wd : UInt64} {ad : zK → Nat} {nc ns : Nat} (hst : (z_l Γ).stackTraces = false) (hNc : zNc (z_s Γ)) (hX : zSc Γ b L xs) (hi : 0 ≤ i ∧ i + 6 ≤ L ∧ L ≤ 3072) (hc : nc + 700 ≤ 601024 ∧ ns + 7300 ≤ 7293034) {p1 : Int} (hp1 : zR p1) (hx1 : xs (i + 1).toNat = zI p1) {p2 : Int} (hp2 : zR p2) (hx2 : xs (i + 2).toNat = zI p2) {p3 : Int} (hp3 : zR p3) (hx3 : xs (i + 3).toNat = zI p3) {p4 : Int} (hp4 : zR p4) (hx4 : xs (i + 4).toNat = zI p4) (hJ : xJ P T T) (hj : T (0, 0, 0, 0) 4 ≤ j) (hj2 : j ≤ 512) (kk : zKn Γ b i j nc ns ad) : G Γ zRL cL_law 9 RL ad (mm (z_d Γ) ad P T (zXl (z_d Γ) w wd)) nc ns 1014 (zLv ad b i) [] := by
  show G Γ zRL cL_law 9 RL ad (mm (z_d Γ) ad P T (zXl (z_d Γ) w wd)) nc ns 1014 [(5, .int (zI i)), (0, .ref b), (1, .ref (ad (0, 0, 0, 0))), (2, .ref (ad (40, 0, 0, 0))), (3, .ref (ad (82, 0, 0, 0))), (4, .ref (ad (83, 0, 0, 0)))] []
  refine G_aload_n (pc := 1014) 1 2 dL_law_1014 rfl rfl ?_
  refine G_aload_n (pc := 1015) 0 1 dL_law_1015 rfl rfl ?_
  refine G_iload (pc := 1016) 0 dL_law_1016 rfl ?_
  refine G_iconst (pc := 1018) dL_law_1018 ?_
  refine G_iadd (pc := 1019) dL_law_1019 ?_
  refine G_sld (pc := 1020) (v := p1) hX dL_law_1020 ⟨by omega, by omega, by omega, by omega⟩ hx1 ?_
  refine G_aload_n (pc := 1021) 0 1 dL_law_1021 rfl rfl ?_
  refine G_iload (pc := 1022) 0 dL_law_1022 rfl ?_
  refine G_iconst (pc := 1024) dL_law_1024 ?_
  refine G_iadd (pc := 1025) dL_law_1025 ?_
  refine G_sld (pc := 1026) (v := p2) hX dL_law_1026 ⟨by omega, by omega, by omega, by omega⟩ hx2 ?_
  refine G_aload_n (pc := 1027) 0 1 dL_law_1027 rfl rfl ?_
  refine G_iload (pc := 1028) 0 dL_law_1028 rfl ?_
  refine G_iconst (pc := 1030) dL_law_1030 ?_
  refine G_iadd (pc := 1031) dL_law_1031 ?_
  refine G_sld (pc := 1032) (v := p3) hX dL_law_1032 ⟨by omega, by omega, by omega, by omega⟩ hx3 ?_
  refine G_aload_n (pc := 1033) 0 1 dL_law_1033 rfl rfl ?_
  refine G_iload (pc := 1034) 0 dL_law_1034 rfl ?_
  refine G_iconst (pc := 1036) dL_law_1036 ?_
  refine G_iadd (pc := 1037) dL_law_1037 ?_
  refine G_sld (pc := 1038) (v := p4) hX dL_law_1038 ⟨by omega, by omega, by omega, by omega⟩ hx4 ?_
  refine G_aload_n (pc := 1039) 3 4 dL_law_1039 rfl rfl ?_
  obtain ⟨d1, mc1, ms1, hr1, hm1⟩ := s_message (l := z_l Γ) (Δ := z_d Γ) (t := p1) (p := p2) (o := p3) (u := p4) hst hp1 hp2 hp3 hp4 P T j w wd ad hJ hj hj2
  have hr1' : d1 ≤ 11 ∧ mc1 ≤ 50 ∧ ms1 ≤ 1300 := hr1
  refine G_callH (pc := 1040) hNc hk_message dL_law_1040 hm1 rfl rfl (Nat.le_of_ble_eq_true rfl) ⟨⟨by show d1 + 1 ≤ 12; omega, by show 8 + (7 + 11) + 38 * d1 ≤ 462; omega⟩, by show nc + mc1 ≤ 601024; omega, by show ns + ms1 ≤ 7293034; omega⟩ (fun v1 ad1 M1 hpo => ?_)
  obtain ⟨k, P1, T1, w1, rfl, hk, rfl, ⟨a0, a40, a82, a83⟩, d2, mc2, ms2, hr2, hm2⟩ := hpo
  have hr2' : d2 ≤ 11 ∧ mc2 ≤ 650 ∧ ms2 ≤ 6000 := hr2
  rw [← a0, ← a40, ← a82, ← a83]
  refine G_istore (pc := 1043) [(6, .int (zI k)), (5, .int (zI i)), (0, .ref b), (1, .ref (ad1 (0, 0, 0, 0))), (2, .ref (ad1 (40, 0, 0, 0))), (3, .ref (ad1 (82, 0, 0, 0))), (4, .ref (ad1 (83, 0, 0, 0)))] dL_law_1043 (by decide) rfl ?_
  refine G_aload_n (pc := 1045) 2 4 dL_law_1045 rfl rfl ?_
  refine G_aload_n (pc := 1046) 0 2 dL_law_1046 rfl rfl ?_
  refine G_iload (pc := 1047) 1 dL_law_1047 rfl ?_
  refine G_iconst (pc := 1049) dL_law_1049 ?_
  refine G_iadd (pc := 1050) dL_law_1050 ?_
  refine G_sld (pc := 1051) (v := p1) hX dL_law_1051 ⟨by omega, by omega, by omega, by omega⟩ hx1 ?_
  refine G_aload_n (pc := 1052) 0 2 dL_law_1052 rfl rfl ?_
  refine G_iload (pc := 1053) 1 dL_law_1053 rfl ?_
  refine G_iconst (pc := 1055) dL_law_1055 ?_
  refine G_iadd (pc := 1056) dL_law_1056 ?_
  refine G_sld (pc := 1057) (v := p2) hX dL_law_1057 ⟨by omega, by omega, by omega, by omega⟩ hx2 ?_
  refine G_aload_n (pc := 1058) 0 2 dL_law_1058 rfl rfl ?_
  refine G_iload (pc := 1059) 1 dL_law_1059 rfl ?_
  refine G_iconst (pc := 1061) dL_law_1061 ?_
  refine G_iadd (pc := 1062) dL_law_1062 ?_
  refine G_sld (pc := 1063) (v := p3) hX dL_law_1063 ⟨by omega, by omega, by omega, by omega⟩ hx3 ?_
  refine G_aload_n (pc := 1064) 0 2 dL_law_1064 rfl rfl ?_
  refine G_iload (pc := 1065) 1 dL_law_1065 rfl ?_
  refine G_iconst (pc := 1067) dL_law_1067 ?_
  refine G_iadd (pc := 1068) dL_law_1068 ?_
  refine G_sld (pc := 1069) (v := p4) hX dL_law_1069 ⟨by omega, by omega, by omega, by omega⟩ hx4 ?_
  refine G_callV (pc := 1070) gk_L_177 dL_law_1070 mg_40 rfl hm2 rfl rfl (Nat.le_of_ble_eq_true rfl) ⟨⟨by show d2 + 1 ≤ 12; omega, by show 8 + (5 + 11) + 38 * d2 ≤ 462; omega⟩, by show nc + mc1 + mc2 ≤ 601024; omega, by show ns + ms1 + ms2 ≤ 7293034; omega⟩ (fun v2 ad2 M2 hpo => ?_)
  obtain ⟨b', P2, T2, rfl, hb', rfl, ⟨c0, c40, c82, c83⟩, ek, ew, hJ2, hj3⟩ := hpo
  rw [← c0, ← c40, ← c82, ← c83]
  have hk2 : zKp ad ad2 := ⟨c0.trans a0, c40.trans a40, c82.trans a82, c83.trans a83⟩
  refine G_istore (pc := 1073) [(7, .int (zI b')), (6, .int (zI k)), (5, .int (zI i)), (0, .ref b), (1, .ref (ad2 (0, 0, 0, 0))), (2, .ref (ad2 (40, 0, 0, 0))), (3, .ref (ad2 (82, 0, 0, 0))), (4, .ref (ad2 (83, 0, 0, 0)))] dL_law_1073 (by decide) rfl ?_
  refine G_aload_n (pc := 1075) 2 5 dL_law_1075 rfl rfl ?_
  refine G_callVd (pc := 1076) gk_L_129 dL_law_1076 mg_40 rfl (c_X7_thrown (Q := P2) hJ2.2.2.2.2.2.1) rfl rfl (Nat.le_of_ble_eq_true rfl) ⟨⟨Nat.le_of_ble_eq_true rfl, Nat.le_of_ble_eq_true rfl⟩, by show nc + mc1 + mc2 + 0 ≤ 601024; omega, by show ns + ms1 + ms2 + 0 ≤ 7293034; omega⟩ ?_
  rw [ek]
  refine G_iload (pc := 1079) 1 dL_law_1079 rfl ?_
  refine G_icmp_eq (pc := 1081) 1086 dL_law_1081 (by decide) ⟨by omega, by omega⟩ ⟨by omega, by omega⟩ (fun _ => ?_) (fun q => absurd rfl q)
  refine G_iload (pc := 1086) 1 dL_law_1086 rfl ?_
  have hfin : ∀ X9 : zK → Nat, X9 = ad2 → G Γ zRL cL_law 9 RL X9 (mm (z_d Γ) X9 P2 T2 (zXl (z_d Γ) w1 wd)) (nc + mc1 + mc2) (ns + ms1 + ms2) 1103 [(7, .int (zI b')), (6, .int (zI k)), (5, .int (zI i)), (0, .ref b), (1, .ref (X9 (0, 0, 0, 0))), (2, .ref (X9 (40, 0, 0, 0))), (3, .ref (X9 (82, 0, 0, 0))), (4, .ref (X9 (83, 0, 0, 0)))] [] := by
    intro X9 e9
    subst e9
    refine G_goto (pc := 1103) 2562 dL_law_1103 (by decide) ?_
    refine G_perm (lv' := zLv X9 b i) [2, 3, 4, 5, 6, 7] rfl ?_
    exact G_more (by omega) (by omega) (kk P2 T2 _ _ X9 hJ2 hj3 hk2)
  refine G_if_ne (pc := 1088) 1103 dL_law_1088 (by decide) ⟨by omega, by omega⟩ (fun _ => hfin ad2 rfl) (fun e0 => ?_)
  refine G_aload_n (pc := 1091) 3 6 dL_law_1091 rfl rfl ?_
  refine G_iconst (pc := 1092) dL_law_1092 ?_
  refine G_lald (pc := 1093) dL_law_1093 zXl_82 ?_
  refine G_iload (pc := 1094) 0 dL_law_1094 rfl ?_
  refine G_i2l (pc := 1096) dL_law_1096 hb' ?_
  rw [ew e0]
  refine G_lcmpE (pc := 1097) dL_law_1097 ?_
  refine G_if_eq (pc := 1098) 1103 dL_law_1098 (by decide) zR_0 (fun _ => ?_) (fun q => absurd rfl q)
  have h9 := hfin ad2 rfl
  rw [ew e0] at h9
  exact h9
set_option maxHeartbeats 1000000 in
set_option maxRecDepth 100000 in
theorem w_14 {Γ : zCx} {b L : Nat} {xs : Nat → Int32} {P : zP} {T : zS} {i j : Int} {w : Int64} {wd : UInt64} {ad : zK → Nat} {nc ns : Nat} (hst : (z_l Γ).stackTraces = false) (hNc : zNc (z_s Γ)) (hX : zSc Γ b L xs) (hi : 0 ≤ i ∧ i + 6 ≤ L ∧ L ≤ 3072) (hc : nc + 700 ≤ 601024 ∧ ns + 7300 ≤ 7293034) {p1 : Int} (hp1 : zR p1) (hx1 : xs (i + 1).toNat = zI p1) (hJ : xJ P T T) (hj : T (0, 0, 0, 0) 4 ≤ j) (hj2 : j ≤ 512) (kk : zKn Γ b i j nc ns ad) : G Γ zRL cL_law 9 RL ad (mm (z_d Γ) ad P T (zXl (z_d Γ) w wd)) nc ns 1106 (zLv ad b i) [] := by
  show G Γ zRL cL_law 9 RL ad (mm (z_d Γ) ad P T (zXl (z_d Γ) w wd)) nc ns 1106 [(5, .int (zI i)), (0, .ref b), (1, .ref (ad (0, 0, 0, 0))), (2, .ref (ad (40, 0, 0, 0))), (3, .ref (ad (82, 0, 0, 0))), (4, .ref (ad (83, 0, 0, 0)))] []
  refine G_aload_n (pc := 1106) 1 2 dL_law_1106 rfl rfl ?_
  refine G_aload_n (pc := 1107) 0 1 dL_law_1107 rfl rfl ?_
  refine G_iload (pc := 1108) 0 dL_law_1108 rfl ?_
  refine G_iconst (pc := 1110) dL_law_1110 ?_
  refine G_iadd (pc := 1111) dL_law_1111 ?_
  refine G_sld (pc := 1112) (v := p1) hX dL_law_1112 ⟨by omega, by omega, by omega, by omega⟩ hx1 ?_
  refine G_aload_n (pc := 1113) 3 4 dL_law_1113 rfl rfl ?_
  obtain ⟨d1, mc1, ms1, hr1, hm1⟩ := s_kept (l := z_l Γ) (Δ := z_d Γ) (t := p1) hst hp1 P T j w wd ad hJ hj hj2
  have hr1' : d1 ≤ 11 ∧ mc1 ≤ 50 ∧ ms1 ≤ 1300 := hr1
  refine G_callH (pc := 1114) hNc hk_kept dL_law_1114 hm1 rfl rfl (Nat.le_of_ble_eq_true rfl) ⟨⟨by show d1 + 1 ≤ 12; omega, by show 8 + (4 + 11) + 38 * d1 ≤ 462; omega⟩, by show nc + mc1 ≤ 601024; omega, by show ns + ms1 ≤ 7293034; omega⟩ (fun v1 ad1 M1 hpo => ?_)
  obtain ⟨k, P1, T1, w1, rfl, hk, rfl, ⟨a0, a40, a82, a83⟩, d2, mc2, ms2, hr2, hm2⟩ := hpo
  have hr2' : d2 ≤ 11 ∧ mc2 ≤ 650 ∧ ms2 ≤ 6000 := hr2
  rw [← a0, ← a40, ← a82, ← a83]
  refine G_istore (pc := 1117) [(6, .int (zI k)), (5, .int (zI i)), (0, .ref b), (1, .ref (ad1 (0, 0, 0, 0))), (2, .ref (ad1 (40, 0, 0, 0))), (3, .ref (ad1 (82, 0, 0, 0))), (4, .ref (ad1 (83, 0, 0, 0)))] dL_law_1117 (by decide) rfl ?_
  refine G_aload_n (pc := 1119) 2 4 dL_law_1119 rfl rfl ?_
  refine G_aload_n (pc := 1120) 0 2 dL_law_1120 rfl rfl ?_
  refine G_iload (pc := 1121) 1 dL_law_1121 rfl ?_
  refine G_iconst (pc := 1123) dL_law_1123 ?_
  refine G_iadd (pc := 1124) dL_law_1124 ?_
  refine G_sld (pc := 1125) (v := p1) hX dL_law_1125 ⟨by omega, by omega, by omega, by omega⟩ hx1 ?_
  refine G_callV (pc := 1126) gk_L_180 dL_law_1126 mg_40 rfl hm2 rfl rfl (Nat.le_of_ble_eq_true rfl) ⟨⟨by show d2 + 1 ≤ 12; omega, by show 8 + (2 + 11) + 38 * d2 ≤ 462; omega⟩, by show nc + mc1 + mc2 ≤ 601024; omega, by show ns + ms1 + ms2 ≤ 7293034; omega⟩ (fun v2 ad2 M2 hpo => ?_)
  obtain ⟨b', P2, T2, rfl, hb', rfl, ⟨c0, c40, c82, c83⟩, ek, ew, hJ2, hj3⟩ := hpo
  rw [← c0, ← c40, ← c82, ← c83]
  have hk2 : zKp ad ad2 := ⟨c0.trans a0, c40.trans a40, c82.trans a82, c83.trans a83⟩
  refine G_istore (pc := 1129) [(7, .int (zI b')), (6, .int (zI k)), (5, .int (zI i)), (0, .ref b), (1, .ref (ad2 (0, 0, 0, 0))), (2, .ref (ad2 (40, 0, 0, 0))), (3, .ref (ad2 (82, 0, 0, 0))), (4, .ref (ad2 (83, 0, 0, 0)))] dL_law_1129 (by decide) rfl ?_
  refine G_aload_n (pc := 1131) 2 5 dL_law_1131 rfl rfl ?_
  refine G_callVd (pc := 1132) gk_L_129 dL_law_1132 mg_40 rfl (c_X7_thrown (Q := P2) hJ2.2.2.2.2.2.1) rfl rfl (Nat.le_of_ble_eq_true rfl) ⟨⟨Nat.le_of_ble_eq_true rfl, Nat.le_of_ble_eq_true rfl⟩, by show nc + mc1 + mc2 + 0 ≤ 601024; omega, by show ns + ms1 + ms2 + 0 ≤ 7293034; omega⟩ ?_
  rw [ek]
  refine G_iload (pc := 1135) 1 dL_law_1135 rfl ?_
  refine G_icmp_eq (pc := 1137) 1142 dL_law_1137 (by decide) ⟨by omega, by omega⟩ ⟨by omega, by omega⟩ (fun _ => ?_) (fun q => absurd rfl q)
  refine G_iload (pc := 1142) 1 dL_law_1142 rfl ?_
  have hfin : ∀ X9 : zK → Nat, X9 = ad2 → G Γ zRL cL_law 9 RL X9 (mm (z_d Γ) X9 P2 T2 (zXl (z_d Γ) w1 wd)) (nc + mc1 + mc2) (ns + ms1 + ms2) 1159 [(7, .int (zI b')), (6, .int (zI k)), (5, .int (zI i)), (0, .ref b), (1, .ref (X9 (0, 0, 0, 0))), (2, .ref (X9 (40, 0, 0, 0))), (3, .ref (X9 (82, 0, 0, 0))), (4, .ref (X9 (83, 0, 0, 0)))] [] := by
    intro X9 e9
    subst e9
    refine G_goto (pc := 1159) 2562 dL_law_1159 (by decide) ?_
    refine G_perm (lv' := zLv X9 b i) [2, 3, 4, 5, 6, 7] rfl ?_
    exact G_more (by omega) (by omega) (kk P2 T2 _ _ X9 hJ2 hj3 hk2)
  refine G_if_ne (pc := 1144) 1159 dL_law_1144 (by decide) ⟨by omega, by omega⟩ (fun _ => hfin ad2 rfl) (fun e0 => ?_)
  refine G_aload_n (pc := 1147) 3 6 dL_law_1147 rfl rfl ?_
  refine G_iconst (pc := 1148) dL_law_1148 ?_
  refine G_lald (pc := 1149) dL_law_1149 zXl_82 ?_
  refine G_iload (pc := 1150) 0 dL_law_1150 rfl ?_
  refine G_i2l (pc := 1152) dL_law_1152 hb' ?_
  rw [ew e0]
  refine G_lcmpE (pc := 1153) dL_law_1153 ?_
  refine G_if_eq (pc := 1154) 1159 dL_law_1154 (by decide) zR_0 (fun _ => ?_) (fun q => absurd rfl q)
  have h9 := hfin ad2 rfl
  rw [ew e0] at h9
  exact h9
set_option maxHeartbeats 1000000 in
set_option maxRecDepth 100000 in
theorem w_15 {Γ : zCx} {b L : Nat} {xs : Nat → Int32} {P : zP} {T : zS} {i j : Int} {w : Int64} {wd : UInt64} {ad : zK → Nat} {nc ns : Nat} (hst : (z_l Γ).stackTraces = false) (hNc : zNc (z_s Γ)) (hX : zSc Γ b L xs) (hi : 0 ≤ i ∧ i + 6 ≤ L ∧ L ≤ 3072) (hc : nc + 700 ≤ 601024 ∧ ns + 7300 ≤ 7293034) {p1 : Int} (hp1 : zR p1) (hx1 : xs (i + 1).toNat = zI p1) (hJ : xJ P T T) (hj : T (0, 0, 0, 0) 4 ≤ j) (hj2 : j ≤ 512) (kk : zKn Γ b i j nc ns ad) : G Γ zRL cL_law 9 RL ad (mm (z_d Γ) ad P T (zXl (z_d Γ) w wd)) nc ns 1162 (zLv ad b i) [] := by
  show G Γ zRL cL_law 9 RL ad (mm (z_d Γ) ad P T (zXl (z_d Γ) w wd)) nc ns 1162 [(5, .int (zI i)), (0, .ref b), (1, .ref (ad (0, 0, 0, 0))), (2, .ref (ad (40, 0, 0, 0))), (3, .ref (ad (82, 0, 0, 0))), (4, .ref (ad (83, 0, 0, 0)))] []
  refine G_aload_n (pc := 1162) 1 2 dL_law_1162 rfl rfl ?_
  refine G_aload_n (pc := 1163) 0 1 dL_law_1163 rfl rfl ?_
  refine G_iload (pc := 1164) 0 dL_law_1164 rfl ?_
  refine G_iconst (pc := 1166) dL_law_1166 ?_
  refine G_iadd (pc := 1167) dL_law_1167 ?_
  refine G_sld (pc := 1168) (v := p1) hX dL_law_1168 ⟨by omega, by omega, by omega, by omega⟩ hx1 ?_
  refine G_aload_n (pc := 1169) 3 4 dL_law_1169 rfl rfl ?_
  obtain ⟨d1, mc1, ms1, hr1, hm1⟩ := s_group (l := z_l Γ) (Δ := z_d Γ) (t := p1) hst hp1 P T j w wd ad hJ hj hj2
  have hr1' : d1 ≤ 11 ∧ mc1 ≤ 50 ∧ ms1 ≤ 1300 := hr1
  refine G_callH (pc := 1170) hNc hk_group dL_law_1170 hm1 rfl rfl (Nat.le_of_ble_eq_true rfl) ⟨⟨by show d1 + 1 ≤ 12; omega, by show 8 + (4 + 11) + 38 * d1 ≤ 462; omega⟩, by show nc + mc1 ≤ 601024; omega, by show ns + ms1 ≤ 7293034; omega⟩ (fun v1 ad1 M1 hpo => ?_)
  obtain ⟨k, P1, T1, w1, rfl, hk, rfl, ⟨a0, a40, a82, a83⟩, d2, mc2, ms2, hr2, hm2⟩ := hpo
  have hr2' : d2 ≤ 11 ∧ mc2 ≤ 650 ∧ ms2 ≤ 6000 := hr2
  rw [← a0, ← a40, ← a82, ← a83]
  refine G_istore (pc := 1173) [(6, .int (zI k)), (5, .int (zI i)), (0, .ref b), (1, .ref (ad1 (0, 0, 0, 0))), (2, .ref (ad1 (40, 0, 0, 0))), (3, .ref (ad1 (82, 0, 0, 0))), (4, .ref (ad1 (83, 0, 0, 0)))] dL_law_1173 (by decide) rfl ?_
  refine G_aload_n (pc := 1175) 2 4 dL_law_1175 rfl rfl ?_
  refine G_aload_n (pc := 1176) 0 2 dL_law_1176 rfl rfl ?_
  refine G_iload (pc := 1177) 1 dL_law_1177 rfl ?_
  refine G_iconst (pc := 1179) dL_law_1179 ?_
  refine G_iadd (pc := 1180) dL_law_1180 ?_
  refine G_sld (pc := 1181) (v := p1) hX dL_law_1181 ⟨by omega, by omega, by omega, by omega⟩ hx1 ?_
  refine G_callV (pc := 1182) gk_L_183 dL_law_1182 mg_40 rfl hm2 rfl rfl (Nat.le_of_ble_eq_true rfl) ⟨⟨by show d2 + 1 ≤ 12; omega, by show 8 + (3 + 11) + 38 * d2 ≤ 462; omega⟩, by show nc + mc1 + mc2 ≤ 601024; omega, by show ns + ms1 + ms2 ≤ 7293034; omega⟩ (fun v2 ad2 M2 hpo => ?_)
  obtain ⟨b', P2, T2, rfl, hb', rfl, ⟨c0, c40, c82, c83⟩, ek, ew, hJ2, hj3⟩ := hpo
  rw [← c0, ← c40, ← c82, ← c83]
  have hk2 : zKp ad ad2 := ⟨c0.trans a0, c40.trans a40, c82.trans a82, c83.trans a83⟩
  refine G_istore (pc := 1185) [(7, .int (zI b')), (6, .int (zI k)), (5, .int (zI i)), (0, .ref b), (1, .ref (ad2 (0, 0, 0, 0))), (2, .ref (ad2 (40, 0, 0, 0))), (3, .ref (ad2 (82, 0, 0, 0))), (4, .ref (ad2 (83, 0, 0, 0)))] dL_law_1185 (by decide) rfl ?_
  refine G_aload_n (pc := 1187) 2 5 dL_law_1187 rfl rfl ?_
  refine G_callVd (pc := 1188) gk_L_129 dL_law_1188 mg_40 rfl (c_X7_thrown (Q := P2) hJ2.2.2.2.2.2.1) rfl rfl (Nat.le_of_ble_eq_true rfl) ⟨⟨Nat.le_of_ble_eq_true rfl, Nat.le_of_ble_eq_true rfl⟩, by show nc + mc1 + mc2 + 0 ≤ 601024; omega, by show ns + ms1 + ms2 + 0 ≤ 7293034; omega⟩ ?_
  rw [ek]
  refine G_iload (pc := 1191) 1 dL_law_1191 rfl ?_
  refine G_icmp_eq (pc := 1193) 1198 dL_law_1193 (by decide) ⟨by omega, by omega⟩ ⟨by omega, by omega⟩ (fun _ => ?_) (fun q => absurd rfl q)
  refine G_iload (pc := 1198) 1 dL_law_1198 rfl ?_
  have hfin : ∀ X9 : zK → Nat, X9 = ad2 → G Γ zRL cL_law 9 RL X9 (mm (z_d Γ) X9 P2 T2 (zXl (z_d Γ) w1 wd)) (nc + mc1 + mc2) (ns + ms1 + ms2) 1215 [(7, .int (zI b')), (6, .int (zI k)), (5, .int (zI i)), (0, .ref b), (1, .ref (X9 (0, 0, 0, 0))), (2, .ref (X9 (40, 0, 0, 0))), (3, .ref (X9 (82, 0, 0, 0))), (4, .ref (X9 (83, 0, 0, 0)))] [] := by
    intro X9 e9
    subst e9
    refine G_goto (pc := 1215) 2562 dL_law_1215 (by decide) ?_
    refine G_perm (lv' := zLv X9 b i) [2, 3, 4, 5, 6, 7] rfl ?_
    exact G_more (by omega) (by omega) (kk P2 T2 _ _ X9 hJ2 hj3 hk2)
  refine G_if_ne (pc := 1200) 1215 dL_law_1200 (by decide) ⟨by omega, by omega⟩ (fun _ => hfin ad2 rfl) (fun e0 => ?_)
  refine G_aload_n (pc := 1203) 3 6 dL_law_1203 rfl rfl ?_
  refine G_iconst (pc := 1204) dL_law_1204 ?_
  refine G_lald (pc := 1205) dL_law_1205 zXl_82 ?_
  refine G_iload (pc := 1206) 0 dL_law_1206 rfl ?_
  refine G_i2l (pc := 1208) dL_law_1208 hb' ?_
  rw [ew e0]
  refine G_lcmpE (pc := 1209) dL_law_1209 ?_
  refine G_if_eq (pc := 1210) 1215 dL_law_1210 (by decide) zR_0 (fun _ => ?_) (fun q => absurd rfl q)
  have h9 := hfin ad2 rfl
  rw [ew e0] at h9
  exact h9
set_option maxHeartbeats 1000000 in
set_option maxRecDepth 100000 in
theorem w_16 {Γ : zCx} {b L : Nat} {xs : Nat → Int32} {P : zP} {T : zS} {i j : Int} {w : Int64} {wd : UInt64} {ad : zK → Nat} {nc ns : Nat} (hst : (z_l Γ).stackTraces = false) (hNc : zNc (z_s Γ)) (hX : zSc Γ b L xs) (hi : 0 ≤ i ∧ i + 6 ≤ L ∧ L ≤ 3072) (hc : nc + 700 ≤ 601024 ∧ ns + 7300 ≤ 7293034) {p1 : Int} (hp1 : zR p1) (hx1 : xs (i + 1).toNat = zI p1) {p2 : Int} (hp2 : zR p2) (hx2 : xs (i + 2).toNat = zI p2) {p3 : Int} (hp3 : zR p3) (hx3 : xs (i + 3).toNat = zI p3) (hJ : xJ P T T) (hj : T (0, 0, 0, 0) 4 ≤ j) (hj2 : j ≤ 512) (kk : zKn Γ b i j nc ns ad) : G Γ zRL cL_law 9 RL ad (mm (z_d Γ) ad P T (zXl (z_d Γ) w wd)) nc ns 1218 (zLv ad b i) [] := by
  show G Γ zRL cL_law 9 RL ad (mm (z_d Γ) ad P T (zXl (z_d Γ) w wd)) nc ns 1218 [(5, .int (zI i)), (0, .ref b), (1, .ref (ad (0, 0, 0, 0))), (2, .ref (ad (40, 0, 0, 0))), (3, .ref (ad (82, 0, 0, 0))), (4, .ref (ad (83, 0, 0, 0)))] []
  refine G_aload_n (pc := 1218) 1 2 dL_law_1218 rfl rfl ?_
  refine G_aload_n (pc := 1219) 0 1 dL_law_1219 rfl rfl ?_
  refine G_iload (pc := 1220) 0 dL_law_1220 rfl ?_
  refine G_iconst (pc := 1222) dL_law_1222 ?_
  refine G_iadd (pc := 1223) dL_law_1223 ?_
  refine G_sld (pc := 1224) (v := p1) hX dL_law_1224 ⟨by omega, by omega, by omega, by omega⟩ hx1 ?_
  refine G_aload_n (pc := 1225) 0 1 dL_law_1225 rfl rfl ?_
  refine G_iload (pc := 1226) 0 dL_law_1226 rfl ?_
  refine G_iconst (pc := 1228) dL_law_1228 ?_
  refine G_iadd (pc := 1229) dL_law_1229 ?_
  refine G_sld (pc := 1230) (v := p2) hX dL_law_1230 ⟨by omega, by omega, by omega, by omega⟩ hx2 ?_
  refine G_aload_n (pc := 1231) 0 1 dL_law_1231 rfl rfl ?_
  refine G_iload (pc := 1232) 0 dL_law_1232 rfl ?_
  refine G_iconst (pc := 1234) dL_law_1234 ?_
  refine G_iadd (pc := 1235) dL_law_1235 ?_
  refine G_sld (pc := 1236) (v := p3) hX dL_law_1236 ⟨by omega, by omega, by omega, by omega⟩ hx3 ?_
  refine G_nz (pc := 1237) dL_law_1237 dL_law_1240 dL_law_1241 dL_law_1244 hp3 ?_
  refine G_aload_n (pc := 1245) 3 4 dL_law_1245 rfl rfl ?_
  obtain ⟨d1, mc1, ms1, hr1, hm1⟩ := s_join (l := z_l Γ) (Δ := z_d Γ) (g := p1) (r := p2) (b := (if p3 = 0 then 0 else 1)) hst hp1 hp2 (by by_cases q : p3 = 0 <;> simp [q]) P T j w wd ad hJ hj hj2
  have hr1' : d1 ≤ 11 ∧ mc1 ≤ 50 ∧ ms1 ≤ 1300 := hr1
  refine G_callH (pc := 1246) hNc hk_join dL_law_1246 hm1 rfl rfl (Nat.le_of_ble_eq_true rfl) ⟨⟨by show d1 + 1 ≤ 12; omega, by show 8 + (6 + 11) + 38 * d1 ≤ 462; omega⟩, by show nc + mc1 ≤ 601024; omega, by show ns + ms1 ≤ 7293034; omega⟩ (fun v1 ad1 M1 hpo => ?_)
  obtain ⟨k, P1, T1, w1, rfl, hk, rfl, ⟨a0, a40, a82, a83⟩, d2, mc2, ms2, hr2, hm2⟩ := hpo
  have hr2' : d2 ≤ 11 ∧ mc2 ≤ 650 ∧ ms2 ≤ 6000 := hr2
  rw [← a0, ← a40, ← a82, ← a83]
  refine G_istore (pc := 1249) [(6, .int (zI k)), (5, .int (zI i)), (0, .ref b), (1, .ref (ad1 (0, 0, 0, 0))), (2, .ref (ad1 (40, 0, 0, 0))), (3, .ref (ad1 (82, 0, 0, 0))), (4, .ref (ad1 (83, 0, 0, 0)))] dL_law_1249 (by decide) rfl ?_
  refine G_aload_n (pc := 1251) 2 4 dL_law_1251 rfl rfl ?_
  refine G_aload_n (pc := 1252) 0 2 dL_law_1252 rfl rfl ?_
  refine G_iload (pc := 1253) 1 dL_law_1253 rfl ?_
  refine G_iconst (pc := 1255) dL_law_1255 ?_
  refine G_iadd (pc := 1256) dL_law_1256 ?_
  refine G_sld (pc := 1257) (v := p1) hX dL_law_1257 ⟨by omega, by omega, by omega, by omega⟩ hx1 ?_
  refine G_aload_n (pc := 1258) 0 2 dL_law_1258 rfl rfl ?_
  refine G_iload (pc := 1259) 1 dL_law_1259 rfl ?_
  refine G_iconst (pc := 1261) dL_law_1261 ?_
  refine G_iadd (pc := 1262) dL_law_1262 ?_
  refine G_sld (pc := 1263) (v := p2) hX dL_law_1263 ⟨by omega, by omega, by omega, by omega⟩ hx2 ?_
  refine G_aload_n (pc := 1264) 0 2 dL_law_1264 rfl rfl ?_
  refine G_iload (pc := 1265) 1 dL_law_1265 rfl ?_
  refine G_iconst (pc := 1267) dL_law_1267 ?_
  refine G_iadd (pc := 1268) dL_law_1268 ?_
  refine G_sld (pc := 1269) (v := p3) hX dL_law_1269 ⟨by omega, by omega, by omega, by omega⟩ hx3 ?_
  refine G_nz (pc := 1270) dL_law_1270 dL_law_1273 dL_law_1274 dL_law_1277 hp3 ?_
  refine G_callV (pc := 1278) gk_L_187 dL_law_1278 mg_40 rfl hm2 rfl rfl (Nat.le_of_ble_eq_true rfl) ⟨⟨by show d2 + 1 ≤ 12; omega, by show 8 + (10 + 11) + 38 * d2 ≤ 462; omega⟩, by show nc + mc1 + mc2 ≤ 601024; omega, by show ns + ms1 + ms2 ≤ 7293034; omega⟩ (fun v2 ad2 M2 hpo => ?_)
  obtain ⟨b', P2, T2, rfl, hb', rfl, ⟨c0, c40, c82, c83⟩, ek, ew, hJ2, hj3⟩ := hpo
  rw [← c0, ← c40, ← c82, ← c83]
  have hk2 : zKp ad ad2 := ⟨c0.trans a0, c40.trans a40, c82.trans a82, c83.trans a83⟩
  refine G_istore (pc := 1281) [(7, .int (zI b')), (6, .int (zI k)), (5, .int (zI i)), (0, .ref b), (1, .ref (ad2 (0, 0, 0, 0))), (2, .ref (ad2 (40, 0, 0, 0))), (3, .ref (ad2 (82, 0, 0, 0))), (4, .ref (ad2 (83, 0, 0, 0)))] dL_law_1281 (by decide) rfl ?_
  refine G_aload_n (pc := 1283) 2 5 dL_law_1283 rfl rfl ?_
  refine G_callVd (pc := 1284) gk_L_129 dL_law_1284 mg_40 rfl (c_X7_thrown (Q := P2) hJ2.2.2.2.2.2.1) rfl rfl (Nat.le_of_ble_eq_true rfl) ⟨⟨Nat.le_of_ble_eq_true rfl, Nat.le_of_ble_eq_true rfl⟩, by show nc + mc1 + mc2 + 0 ≤ 601024; omega, by show ns + ms1 + ms2 + 0 ≤ 7293034; omega⟩ ?_
  rw [ek]
  refine G_iload (pc := 1287) 1 dL_law_1287 rfl ?_
  refine G_icmp_eq (pc := 1289) 1294 dL_law_1289 (by decide) ⟨by omega, by omega⟩ ⟨by omega, by omega⟩ (fun _ => ?_) (fun q => absurd rfl q)
  refine G_iload (pc := 1294) 1 dL_law_1294 rfl ?_
  have hfin : ∀ X9 : zK → Nat, X9 = ad2 → G Γ zRL cL_law 9 RL X9 (mm (z_d Γ) X9 P2 T2 (zXl (z_d Γ) w1 wd)) (nc + mc1 + mc2) (ns + ms1 + ms2) 1318 [(7, .int (zI b')), (6, .int (zI k)), (5, .int (zI i)), (0, .ref b), (1, .ref (X9 (0, 0, 0, 0))), (2, .ref (X9 (40, 0, 0, 0))), (3, .ref (X9 (82, 0, 0, 0))), (4, .ref (X9 (83, 0, 0, 0)))] [] := by
    intro X9 e9
    subst e9
    refine G_goto (pc := 1318) 2562 dL_law_1318 (by decide) ?_
    refine G_perm (lv' := zLv X9 b i) [2, 3, 4, 5, 6, 7] rfl ?_
    exact G_more (by omega) (by omega) (kk P2 T2 _ _ X9 hJ2 hj3 hk2)
  refine G_if_ne (pc := 1296) 1318 dL_law_1296 (by decide) ⟨by omega, by omega⟩ (fun _ => hfin ad2 rfl) (fun e0 => ?_)
  refine G_aload_n (pc := 1299) 3 6 dL_law_1299 rfl rfl ?_
  refine G_iconst (pc := 1300) dL_law_1300 ?_
  refine G_lald (pc := 1301) dL_law_1301 zXl_82 ?_
  refine G_iload (pc := 1302) 0 dL_law_1302 rfl ?_
  refine G_nzL (pc := 1304) dL_law_1304 dL_law_1307 dL_law_1308 dL_law_1311 hb' ?_
  rw [ew e0]
  refine G_lcmpE (pc := 1312) dL_law_1312 ?_
  refine G_if_eq (pc := 1313) 1318 dL_law_1313 (by decide) zR_0 (fun _ => ?_) (fun q => absurd rfl q)
  have h9 := hfin ad2 rfl
  rw [ew e0] at h9
  exact h9
set_option maxHeartbeats 1000000 in
set_option maxRecDepth 100000 in
theorem w_17 {Γ : zCx} {b L : Nat} {xs : Nat → Int32} {P : zP} {T : zS} {i j : Int} {w : Int64} {wd : UInt64} {ad : zK → Nat} {nc ns : Nat} (hst : (z_l Γ).stackTraces = false) (hNc : zNc (z_s Γ)) (hX : zSc Γ b L xs) (hi : 0 ≤ i ∧ i + 6 ≤ L ∧ L ≤ 3072) (hc : nc + 700 ≤ 601024 ∧ ns + 7300 ≤ 7293034) {p1 : Int} (hp1 : zR p1) (hx1 : xs (i + 1).toNat = zI p1) {p2 : Int} (hp2 : zR p2) (hx2 : xs (i + 2).toNat = zI p2) (hJ : xJ P T T) (hj : T (0, 0, 0, 0) 4 ≤ j) (hj2 : j ≤ 512) (kk : zKn Γ b i j nc ns ad) : G Γ zRL cL_law 9 RL ad (mm (z_d Γ) ad P T (zXl (z_d Γ) w wd)) nc ns 1321 (zLv ad b i) [] := by
  show G Γ zRL cL_law 9 RL ad (mm (z_d Γ) ad P T (zXl (z_d Γ) w wd)) nc ns 1321 [(5, .int (zI i)), (0, .ref b), (1, .ref (ad (0, 0, 0, 0))), (2, .ref (ad (40, 0, 0, 0))), (3, .ref (ad (82, 0, 0, 0))), (4, .ref (ad (83, 0, 0, 0)))] []
  refine G_aload_n (pc := 1321) 1 2 dL_law_1321 rfl rfl ?_
  refine G_aload_n (pc := 1322) 0 1 dL_law_1322 rfl rfl ?_
  refine G_iload (pc := 1323) 0 dL_law_1323 rfl ?_
  refine G_iconst (pc := 1325) dL_law_1325 ?_
  refine G_iadd (pc := 1326) dL_law_1326 ?_
  refine G_sld (pc := 1327) (v := p1) hX dL_law_1327 ⟨by omega, by omega, by omega, by omega⟩ hx1 ?_
  refine G_aload_n (pc := 1328) 0 1 dL_law_1328 rfl rfl ?_
  refine G_iload (pc := 1329) 0 dL_law_1329 rfl ?_
  refine G_iconst (pc := 1331) dL_law_1331 ?_
  refine G_iadd (pc := 1332) dL_law_1332 ?_
  refine G_sld (pc := 1333) (v := p2) hX dL_law_1333 ⟨by omega, by omega, by omega, by omega⟩ hx2 ?_
  refine G_aload_n (pc := 1334) 3 4 dL_law_1334 rfl rfl ?_
  obtain ⟨d1, mc1, ms1, hr1, hm1⟩ := s_take (l := z_l Γ) (Δ := z_d Γ) (g := p1) (r := p2) hst hp1 hp2 P T j w wd ad hJ hj hj2
  have hr1' : d1 ≤ 11 ∧ mc1 ≤ 50 ∧ ms1 ≤ 1300 := hr1
  refine G_callH (pc := 1335) hNc hk_take dL_law_1335 hm1 rfl rfl (Nat.le_of_ble_eq_true rfl) ⟨⟨by show d1 + 1 ≤ 12; omega, by show 8 + (5 + 11) + 38 * d1 ≤ 462; omega⟩, by show nc + mc1 ≤ 601024; omega, by show ns + ms1 ≤ 7293034; omega⟩ (fun v1 ad1 M1 hpo => ?_)
  obtain ⟨k, P1, T1, w1, rfl, hk, rfl, ⟨a0, a40, a82, a83⟩, d2, mc2, ms2, hr2, hm2⟩ := hpo
  have hr2' : d2 ≤ 11 ∧ mc2 ≤ 650 ∧ ms2 ≤ 6000 := hr2
  rw [← a0, ← a40, ← a82, ← a83]
  refine G_istore (pc := 1338) [(6, .int (zI k)), (5, .int (zI i)), (0, .ref b), (1, .ref (ad1 (0, 0, 0, 0))), (2, .ref (ad1 (40, 0, 0, 0))), (3, .ref (ad1 (82, 0, 0, 0))), (4, .ref (ad1 (83, 0, 0, 0)))] dL_law_1338 (by decide) rfl ?_
  refine G_aload_n (pc := 1340) 2 4 dL_law_1340 rfl rfl ?_
  refine G_aload_n (pc := 1341) 0 2 dL_law_1341 rfl rfl ?_
  refine G_iload (pc := 1342) 1 dL_law_1342 rfl ?_
  refine G_iconst (pc := 1344) dL_law_1344 ?_
  refine G_iadd (pc := 1345) dL_law_1345 ?_
  refine G_sld (pc := 1346) (v := p1) hX dL_law_1346 ⟨by omega, by omega, by omega, by omega⟩ hx1 ?_
  refine G_aload_n (pc := 1347) 0 2 dL_law_1347 rfl rfl ?_
  refine G_iload (pc := 1348) 1 dL_law_1348 rfl ?_
  refine G_iconst (pc := 1350) dL_law_1350 ?_
  refine G_iadd (pc := 1351) dL_law_1351 ?_
  refine G_sld (pc := 1352) (v := p2) hX dL_law_1352 ⟨by omega, by omega, by omega, by omega⟩ hx2 ?_
  refine G_callV (pc := 1353) gk_L_190 dL_law_1353 mg_40 rfl hm2 rfl rfl (Nat.le_of_ble_eq_true rfl) ⟨⟨by show d2 + 1 ≤ 12; omega, by show 8 + (5 + 11) + 38 * d2 ≤ 462; omega⟩, by show nc + mc1 + mc2 ≤ 601024; omega, by show ns + ms1 + ms2 ≤ 7293034; omega⟩ (fun v2 ad2 M2 hpo => ?_)
  obtain ⟨b', P2, T2, rfl, hb', rfl, ⟨c0, c40, c82, c83⟩, ek, ew, hJ2, hj3⟩ := hpo
  rw [← c0, ← c40, ← c82, ← c83]
  have hk2 : zKp ad ad2 := ⟨c0.trans a0, c40.trans a40, c82.trans a82, c83.trans a83⟩
  refine G_istore (pc := 1356) [(7, .int (zI b')), (6, .int (zI k)), (5, .int (zI i)), (0, .ref b), (1, .ref (ad2 (0, 0, 0, 0))), (2, .ref (ad2 (40, 0, 0, 0))), (3, .ref (ad2 (82, 0, 0, 0))), (4, .ref (ad2 (83, 0, 0, 0)))] dL_law_1356 (by decide) rfl ?_
  refine G_aload_n (pc := 1358) 2 5 dL_law_1358 rfl rfl ?_
  refine G_callVd (pc := 1359) gk_L_129 dL_law_1359 mg_40 rfl (c_X7_thrown (Q := P2) hJ2.2.2.2.2.2.1) rfl rfl (Nat.le_of_ble_eq_true rfl) ⟨⟨Nat.le_of_ble_eq_true rfl, Nat.le_of_ble_eq_true rfl⟩, by show nc + mc1 + mc2 + 0 ≤ 601024; omega, by show ns + ms1 + ms2 + 0 ≤ 7293034; omega⟩ ?_
  rw [ek]
  refine G_iload (pc := 1362) 1 dL_law_1362 rfl ?_
  refine G_icmp_eq (pc := 1364) 1369 dL_law_1364 (by decide) ⟨by omega, by omega⟩ ⟨by omega, by omega⟩ (fun _ => ?_) (fun q => absurd rfl q)
  refine G_iload (pc := 1369) 1 dL_law_1369 rfl ?_
  have hfin : ∀ X9 : zK → Nat, X9 = ad2 → G Γ zRL cL_law 9 RL X9 (mm (z_d Γ) X9 P2 T2 (zXl (z_d Γ) w1 wd)) (nc + mc1 + mc2) (ns + ms1 + ms2) 1386 [(7, .int (zI b')), (6, .int (zI k)), (5, .int (zI i)), (0, .ref b), (1, .ref (X9 (0, 0, 0, 0))), (2, .ref (X9 (40, 0, 0, 0))), (3, .ref (X9 (82, 0, 0, 0))), (4, .ref (X9 (83, 0, 0, 0)))] [] := by
    intro X9 e9
    subst e9
    refine G_goto (pc := 1386) 2562 dL_law_1386 (by decide) ?_
    refine G_perm (lv' := zLv X9 b i) [2, 3, 4, 5, 6, 7] rfl ?_
    exact G_more (by omega) (by omega) (kk P2 T2 _ _ X9 hJ2 hj3 hk2)
  refine G_if_ne (pc := 1371) 1386 dL_law_1371 (by decide) ⟨by omega, by omega⟩ (fun _ => hfin ad2 rfl) (fun e0 => ?_)
  refine G_aload_n (pc := 1374) 3 6 dL_law_1374 rfl rfl ?_
  refine G_iconst (pc := 1375) dL_law_1375 ?_
  refine G_lald (pc := 1376) dL_law_1376 zXl_82 ?_
  refine G_iload (pc := 1377) 0 dL_law_1377 rfl ?_
  refine G_i2l (pc := 1379) dL_law_1379 hb' ?_
  rw [ew e0]
  refine G_lcmpE (pc := 1380) dL_law_1380 ?_
  refine G_if_eq (pc := 1381) 1386 dL_law_1381 (by decide) zR_0 (fun _ => ?_) (fun q => absurd rfl q)
  have h9 := hfin ad2 rfl
  rw [ew e0] at h9
  exact h9
set_option maxHeartbeats 1000000 in
set_option maxRecDepth 100000 in
theorem w_18 {Γ : zCx} {b L : Nat} {xs : Nat → Int32} {P : zP} {T : zS} {i j : Int} {w : Int64} {wd : UInt64} {ad : zK → Nat} {nc ns : Nat} (hst : (z_l Γ).stackTraces = false) (hNc : zNc (z_s Γ)) (hX : zSc Γ b L xs) (hi : 0 ≤ i ∧ i + 6 ≤ L ∧ L ≤ 3072) (hc : nc + 700 ≤ 601024 ∧ ns + 7300 ≤ 7293034) {p1 : Int} (hp1 : zR p1) (hx1 : xs (i + 1).toNat = zI p1) {p2 : Int} (hp2 : zR p2) (hx2 : xs (i + 2).toNat = zI p2) {p3 : Int} (hp3 : zR p3) (hx3 : xs (i + 3).toNat = zI p3) (hJ : xJ P T T) (hj : T (0, 0, 0, 0) 4 ≤ j) (hj2 : j ≤ 512) (kk : zKn Γ b i j nc ns ad) : G Γ zRL cL_law 9 RL ad (mm (z_d Γ) ad P T (zXl (z_d Γ) w wd)) nc ns 1389 (zLv ad b i) [] := by
  show G Γ zRL cL_law 9 RL ad (mm (z_d Γ) ad P T (zXl (z_d Γ) w wd)) nc ns 1389 [(5, .int (zI i)), (0, .ref b), (1, .ref (ad (0, 0, 0, 0))), (2, .ref (ad (40, 0, 0, 0))), (3, .ref (ad (82, 0, 0, 0))), (4, .ref (ad (83, 0, 0, 0)))] []
  refine G_aload_n (pc := 1389) 1 2 dL_law_1389 rfl rfl ?_
  refine G_aload_n (pc := 1390) 0 1 dL_law_1390 rfl rfl ?_
  refine G_iload (pc := 1391) 0 dL_law_1391 rfl ?_
  refine G_iconst (pc := 1393) dL_law_1393 ?_
  refine G_iadd (pc := 1394) dL_law_1394 ?_
  refine G_sld (pc := 1395) (v := p1) hX dL_law_1395 ⟨by omega, by omega, by omega, by omega⟩ hx1 ?_
  refine G_aload_n (pc := 1396) 0 1 dL_law_1396 rfl rfl ?_
  refine G_iload (pc := 1397) 0 dL_law_1397 rfl ?_
  refine G_iconst (pc := 1399) dL_law_1399 ?_
  refine G_iadd (pc := 1400) dL_law_1400 ?_
  refine G_sld (pc := 1401) (v := p2) hX dL_law_1401 ⟨by omega, by omega, by omega, by omega⟩ hx2 ?_
  refine G_aload_n (pc := 1402) 0 1 dL_law_1402 rfl rfl ?_
  refine G_iload (pc := 1403) 0 dL_law_1403 rfl ?_
  refine G_iconst (pc := 1405) dL_law_1405 ?_
  refine G_iadd (pc := 1406) dL_law_1406 ?_
  refine G_sld (pc := 1407) (v := p3) hX dL_law_1407 ⟨by omega, by omega, by omega, by omega⟩ hx3 ?_
  refine G_aload_n (pc := 1408) 3 4 dL_law_1408 rfl rfl ?_
  obtain ⟨d1, mc1, ms1, hr1, hm1⟩ := s_ack (l := z_l Γ) (Δ := z_d Γ) (g := p1) (p := p2) (o := p3) hst hp1 hp2 hp3 P T j w wd ad hJ hj hj2
  have hr1' : d1 ≤ 11 ∧ mc1 ≤ 50 ∧ ms1 ≤ 1300 := hr1
  refine G_callH (pc := 1409) hNc hk_ack dL_law_1409 hm1 rfl rfl (Nat.le_of_ble_eq_true rfl) ⟨⟨by show d1 + 1 ≤ 12; omega, by show 8 + (6 + 11) + 38 * d1 ≤ 462; omega⟩, by show nc + mc1 ≤ 601024; omega, by show ns + ms1 ≤ 7293034; omega⟩ (fun v1 ad1 M1 hpo => ?_)
  obtain ⟨k, P1, T1, w1, rfl, hk, rfl, ⟨a0, a40, a82, a83⟩, d2, mc2, ms2, hr2, hm2⟩ := hpo
  have hr2' : d2 ≤ 11 ∧ mc2 ≤ 650 ∧ ms2 ≤ 6000 := hr2
  rw [← a0, ← a40, ← a82, ← a83]
  refine G_istore (pc := 1412) [(6, .int (zI k)), (5, .int (zI i)), (0, .ref b), (1, .ref (ad1 (0, 0, 0, 0))), (2, .ref (ad1 (40, 0, 0, 0))), (3, .ref (ad1 (82, 0, 0, 0))), (4, .ref (ad1 (83, 0, 0, 0)))] dL_law_1412 (by decide) rfl ?_
  refine G_aload_n (pc := 1414) 2 4 dL_law_1414 rfl rfl ?_
  refine G_aload_n (pc := 1415) 0 2 dL_law_1415 rfl rfl ?_
  refine G_iload (pc := 1416) 1 dL_law_1416 rfl ?_
  refine G_iconst (pc := 1418) dL_law_1418 ?_
  refine G_iadd (pc := 1419) dL_law_1419 ?_
  refine G_sld (pc := 1420) (v := p1) hX dL_law_1420 ⟨by omega, by omega, by omega, by omega⟩ hx1 ?_
  refine G_aload_n (pc := 1421) 0 2 dL_law_1421 rfl rfl ?_
  refine G_iload (pc := 1422) 1 dL_law_1422 rfl ?_
  refine G_iconst (pc := 1424) dL_law_1424 ?_
  refine G_iadd (pc := 1425) dL_law_1425 ?_
  refine G_sld (pc := 1426) (v := p2) hX dL_law_1426 ⟨by omega, by omega, by omega, by omega⟩ hx2 ?_
  refine G_aload_n (pc := 1427) 0 2 dL_law_1427 rfl rfl ?_
  refine G_iload (pc := 1428) 1 dL_law_1428 rfl ?_
  refine G_iconst (pc := 1430) dL_law_1430 ?_
  refine G_iadd (pc := 1431) dL_law_1431 ?_
  refine G_sld (pc := 1432) (v := p3) hX dL_law_1432 ⟨by omega, by omega, by omega, by omega⟩ hx3 ?_
  refine G_callV (pc := 1433) gk_L_194 dL_law_1433 mg_40 rfl hm2 rfl rfl (Nat.le_of_ble_eq_true rfl) ⟨⟨by show d2 + 1 ≤ 12; omega, by show 8 + (5 + 11) + 38 * d2 ≤ 462; omega⟩, by show nc + mc1 + mc2 ≤ 601024; omega, by show ns + ms1 + ms2 ≤ 7293034; omega⟩ (fun v2 ad2 M2 hpo => ?_)
  obtain ⟨b', P2, T2, rfl, hb', rfl, ⟨c0, c40, c82, c83⟩, ek, ew, hJ2, hj3⟩ := hpo
  rw [← c0, ← c40, ← c82, ← c83]
  have hk2 : zKp ad ad2 := ⟨c0.trans a0, c40.trans a40, c82.trans a82, c83.trans a83⟩
  refine G_istore (pc := 1436) [(7, .int (zI b')), (6, .int (zI k)), (5, .int (zI i)), (0, .ref b), (1, .ref (ad2 (0, 0, 0, 0))), (2, .ref (ad2 (40, 0, 0, 0))), (3, .ref (ad2 (82, 0, 0, 0))), (4, .ref (ad2 (83, 0, 0, 0)))] dL_law_1436 (by decide) rfl ?_
  refine G_aload_n (pc := 1438) 2 5 dL_law_1438 rfl rfl ?_
  refine G_callVd (pc := 1439) gk_L_129 dL_law_1439 mg_40 rfl (c_X7_thrown (Q := P2) hJ2.2.2.2.2.2.1) rfl rfl (Nat.le_of_ble_eq_true rfl) ⟨⟨Nat.le_of_ble_eq_true rfl, Nat.le_of_ble_eq_true rfl⟩, by show nc + mc1 + mc2 + 0 ≤ 601024; omega, by show ns + ms1 + ms2 + 0 ≤ 7293034; omega⟩ ?_
  rw [ek]
  refine G_iload (pc := 1442) 1 dL_law_1442 rfl ?_
  refine G_icmp_eq (pc := 1444) 1449 dL_law_1444 (by decide) ⟨by omega, by omega⟩ ⟨by omega, by omega⟩ (fun _ => ?_) (fun q => absurd rfl q)
  refine G_iload (pc := 1449) 1 dL_law_1449 rfl ?_
  have hfin : ∀ X9 : zK → Nat, X9 = ad2 → G Γ zRL cL_law 9 RL X9 (mm (z_d Γ) X9 P2 T2 (zXl (z_d Γ) w1 wd)) (nc + mc1 + mc2) (ns + ms1 + ms2) 1466 [(7, .int (zI b')), (6, .int (zI k)), (5, .int (zI i)), (0, .ref b), (1, .ref (X9 (0, 0, 0, 0))), (2, .ref (X9 (40, 0, 0, 0))), (3, .ref (X9 (82, 0, 0, 0))), (4, .ref (X9 (83, 0, 0, 0)))] [] := by
    intro X9 e9
    subst e9
    refine G_goto (pc := 1466) 2562 dL_law_1466 (by decide) ?_
    refine G_perm (lv' := zLv X9 b i) [2, 3, 4, 5, 6, 7] rfl ?_
    exact G_more (by omega) (by omega) (kk P2 T2 _ _ X9 hJ2 hj3 hk2)
  refine G_if_ne (pc := 1451) 1466 dL_law_1451 (by decide) ⟨by omega, by omega⟩ (fun _ => hfin ad2 rfl) (fun e0 => ?_)
  refine G_aload_n (pc := 1454) 3 6 dL_law_1454 rfl rfl ?_
  refine G_iconst (pc := 1455) dL_law_1455 ?_
  refine G_lald (pc := 1456) dL_law_1456 zXl_82 ?_
  refine G_iload (pc := 1457) 0 dL_law_1457 rfl ?_
  refine G_i2l (pc := 1459) dL_law_1459 hb' ?_
  rw [ew e0]
  refine G_lcmpE (pc := 1460) dL_law_1460 ?_
  refine G_if_eq (pc := 1461) 1466 dL_law_1461 (by decide) zR_0 (fun _ => ?_) (fun q => absurd rfl q)
  have h9 := hfin ad2 rfl
  rw [ew e0] at h9
  exact h9
set_option maxHeartbeats 1000000 in
set_option maxRecDepth 100000 in
theorem w_19 {Γ : zCx} {b L : Nat} {xs : Nat → Int32} {P : zP} {T : zS} {i j : Int} {w : Int64} {wd : UInt64} {ad : zK → Nat} {nc ns : Nat} (hst : (z_l Γ).stackTraces = false) (hNc : zNc (z_s Γ)) (hX : zSc Γ b L xs) (hi : 0 ≤ i ∧ i + 6 ≤ L ∧ L ≤ 3072) (hc : nc + 700 ≤ 601024 ∧ ns + 7300 ≤ 7293034) {p1 : Int} (hp1 : zR p1) (hx1 : xs (i + 1).toNat = zI p1) {p2 : Int} (hp2 : zR p2) (hx2 : xs (i + 2).toNat = zI p2) {p3 : Int} (hp3 : zR p3) (hx3 : xs (i + 3).toNat = zI p3) (hJ : xJ P T T) (hj : T (0, 0, 0, 0) 4 ≤ j) (hj2 : j ≤ 512) (kk : zKn Γ b i j nc ns ad) : G Γ zRL cL_law 9 RL ad (mm (z_d Γ) ad P T (zXl (z_d Γ) w wd)) nc ns 1469 (zLv ad b i) [] := by
  show G Γ zRL cL_law 9 RL ad (mm (z_d Γ) ad P T (zXl (z_d Γ) w wd)) nc ns 1469 [(5, .int (zI i)), (0, .ref b), (1, .ref (ad (0, 0, 0, 0))), (2, .ref (ad (40, 0, 0, 0))), (3, .ref (ad (82, 0, 0, 0))), (4, .ref (ad (83, 0, 0, 0)))] []
  refine G_aload_n (pc := 1469) 1 2 dL_law_1469 rfl rfl ?_
  refine G_aload_n (pc := 1470) 0 1 dL_law_1470 rfl rfl ?_
  refine G_iload (pc := 1471) 0 dL_law_1471 rfl ?_
  refine G_iconst (pc := 1473) dL_law_1473 ?_
  refine G_iadd (pc := 1474) dL_law_1474 ?_
  refine G_sld (pc := 1475) (v := p1) hX dL_law_1475 ⟨by omega, by omega, by omega, by omega⟩ hx1 ?_
  refine G_aload_n (pc := 1476) 0 1 dL_law_1476 rfl rfl ?_
  refine G_iload (pc := 1477) 0 dL_law_1477 rfl ?_
  refine G_iconst (pc := 1479) dL_law_1479 ?_
  refine G_iadd (pc := 1480) dL_law_1480 ?_
  refine G_sld (pc := 1481) (v := p2) hX dL_law_1481 ⟨by omega, by omega, by omega, by omega⟩ hx2 ?_
  refine G_aload_n (pc := 1482) 0 1 dL_law_1482 rfl rfl ?_
  refine G_iload (pc := 1483) 0 dL_law_1483 rfl ?_
  refine G_iconst (pc := 1485) dL_law_1485 ?_
  refine G_iadd (pc := 1486) dL_law_1486 ?_
  refine G_sld (pc := 1487) (v := p3) hX dL_law_1487 ⟨by omega, by omega, by omega, by omega⟩ hx3 ?_
  refine G_aload_n (pc := 1488) 3 4 dL_law_1488 rfl rfl ?_
  obtain ⟨d1, mc1, ms1, hr1, hm1⟩ := s_nack (l := z_l Γ) (Δ := z_d Γ) (g := p1) (p := p2) (o := p3) hst hp1 hp2 hp3 P T j w wd ad hJ hj hj2
  have hr1' : d1 ≤ 11 ∧ mc1 ≤ 50 ∧ ms1 ≤ 1300 := hr1
  refine G_callH (pc := 1489) hNc hk_nack dL_law_1489 hm1 rfl rfl (Nat.le_of_ble_eq_true rfl) ⟨⟨by show d1 + 1 ≤ 12; omega, by show 8 + (6 + 11) + 38 * d1 ≤ 462; omega⟩, by show nc + mc1 ≤ 601024; omega, by show ns + ms1 ≤ 7293034; omega⟩ (fun v1 ad1 M1 hpo => ?_)
  obtain ⟨k, P1, T1, w1, rfl, hk, rfl, ⟨a0, a40, a82, a83⟩, d2, mc2, ms2, hr2, hm2⟩ := hpo
  have hr2' : d2 ≤ 11 ∧ mc2 ≤ 650 ∧ ms2 ≤ 6000 := hr2
  rw [← a0, ← a40, ← a82, ← a83]
  refine G_istore (pc := 1492) [(6, .int (zI k)), (5, .int (zI i)), (0, .ref b), (1, .ref (ad1 (0, 0, 0, 0))), (2, .ref (ad1 (40, 0, 0, 0))), (3, .ref (ad1 (82, 0, 0, 0))), (4, .ref (ad1 (83, 0, 0, 0)))] dL_law_1492 (by decide) rfl ?_
  refine G_aload_n (pc := 1494) 2 4 dL_law_1494 rfl rfl ?_
  refine G_aload_n (pc := 1495) 0 2 dL_law_1495 rfl rfl ?_
  refine G_iload (pc := 1496) 1 dL_law_1496 rfl ?_
  refine G_iconst (pc := 1498) dL_law_1498 ?_
  refine G_iadd (pc := 1499) dL_law_1499 ?_
  refine G_sld (pc := 1500) (v := p1) hX dL_law_1500 ⟨by omega, by omega, by omega, by omega⟩ hx1 ?_
  refine G_aload_n (pc := 1501) 0 2 dL_law_1501 rfl rfl ?_
  refine G_iload (pc := 1502) 1 dL_law_1502 rfl ?_
  refine G_iconst (pc := 1504) dL_law_1504 ?_
  refine G_iadd (pc := 1505) dL_law_1505 ?_
  refine G_sld (pc := 1506) (v := p2) hX dL_law_1506 ⟨by omega, by omega, by omega, by omega⟩ hx2 ?_
  refine G_aload_n (pc := 1507) 0 2 dL_law_1507 rfl rfl ?_
  refine G_iload (pc := 1508) 1 dL_law_1508 rfl ?_
  refine G_iconst (pc := 1510) dL_law_1510 ?_
  refine G_iadd (pc := 1511) dL_law_1511 ?_
  refine G_sld (pc := 1512) (v := p3) hX dL_law_1512 ⟨by omega, by omega, by omega, by omega⟩ hx3 ?_
  refine G_callV (pc := 1513) gk_L_197 dL_law_1513 mg_40 rfl hm2 rfl rfl (Nat.le_of_ble_eq_true rfl) ⟨⟨by show d2 + 1 ≤ 12; omega, by show 8 + (5 + 11) + 38 * d2 ≤ 462; omega⟩, by show nc + mc1 + mc2 ≤ 601024; omega, by show ns + ms1 + ms2 ≤ 7293034; omega⟩ (fun v2 ad2 M2 hpo => ?_)
  obtain ⟨b', P2, T2, rfl, hb', rfl, ⟨c0, c40, c82, c83⟩, ek, ew, hJ2, hj3⟩ := hpo
  rw [← c0, ← c40, ← c82, ← c83]
  have hk2 : zKp ad ad2 := ⟨c0.trans a0, c40.trans a40, c82.trans a82, c83.trans a83⟩
  refine G_istore (pc := 1516) [(7, .int (zI b')), (6, .int (zI k)), (5, .int (zI i)), (0, .ref b), (1, .ref (ad2 (0, 0, 0, 0))), (2, .ref (ad2 (40, 0, 0, 0))), (3, .ref (ad2 (82, 0, 0, 0))), (4, .ref (ad2 (83, 0, 0, 0)))] dL_law_1516 (by decide) rfl ?_
  refine G_aload_n (pc := 1518) 2 5 dL_law_1518 rfl rfl ?_
  refine G_callVd (pc := 1519) gk_L_129 dL_law_1519 mg_40 rfl (c_X7_thrown (Q := P2) hJ2.2.2.2.2.2.1) rfl rfl (Nat.le_of_ble_eq_true rfl) ⟨⟨Nat.le_of_ble_eq_true rfl, Nat.le_of_ble_eq_true rfl⟩, by show nc + mc1 + mc2 + 0 ≤ 601024; omega, by show ns + ms1 + ms2 + 0 ≤ 7293034; omega⟩ ?_
  rw [ek]
  refine G_iload (pc := 1522) 1 dL_law_1522 rfl ?_
  refine G_icmp_eq (pc := 1524) 1529 dL_law_1524 (by decide) ⟨by omega, by omega⟩ ⟨by omega, by omega⟩ (fun _ => ?_) (fun q => absurd rfl q)
  refine G_iload (pc := 1529) 1 dL_law_1529 rfl ?_
  have hfin : ∀ X9 : zK → Nat, X9 = ad2 → G Γ zRL cL_law 9 RL X9 (mm (z_d Γ) X9 P2 T2 (zXl (z_d Γ) w1 wd)) (nc + mc1 + mc2) (ns + ms1 + ms2) 1546 [(7, .int (zI b')), (6, .int (zI k)), (5, .int (zI i)), (0, .ref b), (1, .ref (X9 (0, 0, 0, 0))), (2, .ref (X9 (40, 0, 0, 0))), (3, .ref (X9 (82, 0, 0, 0))), (4, .ref (X9 (83, 0, 0, 0)))] [] := by
    intro X9 e9
    subst e9
    refine G_goto (pc := 1546) 2562 dL_law_1546 (by decide) ?_
    refine G_perm (lv' := zLv X9 b i) [2, 3, 4, 5, 6, 7] rfl ?_
    exact G_more (by omega) (by omega) (kk P2 T2 _ _ X9 hJ2 hj3 hk2)
  refine G_if_ne (pc := 1531) 1546 dL_law_1531 (by decide) ⟨by omega, by omega⟩ (fun _ => hfin ad2 rfl) (fun e0 => ?_)
  refine G_aload_n (pc := 1534) 3 6 dL_law_1534 rfl rfl ?_
  refine G_iconst (pc := 1535) dL_law_1535 ?_
  refine G_lald (pc := 1536) dL_law_1536 zXl_82 ?_
  refine G_iload (pc := 1537) 0 dL_law_1537 rfl ?_
  refine G_i2l (pc := 1539) dL_law_1539 hb' ?_
  rw [ew e0]
  refine G_lcmpE (pc := 1540) dL_law_1540 ?_
  refine G_if_eq (pc := 1541) 1546 dL_law_1541 (by decide) zR_0 (fun _ => ?_) (fun q => absurd rfl q)
  have h9 := hfin ad2 rfl
  rw [ew e0] at h9
  exact h9
set_option maxHeartbeats 1000000 in
set_option maxRecDepth 100000 in
theorem w_20 {Γ : zCx} {b L : Nat} {xs : Nat → Int32} {P : zP} {T : zS} {i j : Int} {w : Int64} {wd : UInt64} {ad : zK → Nat} {nc ns : Nat} (hst : (z_l Γ).stackTraces = false) (hNc : zNc (z_s Γ)) (hX : zSc Γ b L xs) (hi : 0 ≤ i ∧ i + 6 ≤ L ∧ L ≤ 3072) (hc : nc + 700 ≤ 601024 ∧ ns + 7300 ≤ 7293034) {p1 : Int} (hp1 : zR p1) (hx1 : xs (i + 1).toNat = zI p1) {p2 : Int} (hp2 : zR p2) (hx2 : xs (i + 2).toNat = zI p2) {p3 : Int} (hp3 : zR p3) (hx3 : xs (i + 3).toNat = zI p3) (hJ : xJ P T T) (hj : T (0, 0, 0, 0) 4 ≤ j) (hj2 : j ≤ 512) (kk : zKn Γ b i j nc ns ad) : G Γ zRL cL_law 9 RL ad (mm (z_d Γ) ad P T (zXl (z_d Γ) w wd)) nc ns 1549 (zLv ad b i) [] := by
  show G Γ zRL cL_law 9 RL ad (mm (z_d Γ) ad P T (zXl (z_d Γ) w wd)) nc ns 1549 [(5, .int (zI i)), (0, .ref b), (1, .ref (ad (0, 0, 0, 0))), (2, .ref (ad (40, 0, 0, 0))), (3, .ref (ad (82, 0, 0, 0))), (4, .ref (ad (83, 0, 0, 0)))] []
  refine G_aload_n (pc := 1549) 1 2 dL_law_1549 rfl rfl ?_
  refine G_aload_n (pc := 1550) 0 1 dL_law_1550 rfl rfl ?_
  refine G_iload (pc := 1551) 0 dL_law_1551 rfl ?_
  refine G_iconst (pc := 1553) dL_law_1553 ?_
  refine G_iadd (pc := 1554) dL_law_1554 ?_
  refine G_sld (pc := 1555) (v := p1) hX dL_law_1555 ⟨by omega, by omega, by omega, by omega⟩ hx1 ?_
  refine G_aload_n (pc := 1556) 0 1 dL_law_1556 rfl rfl ?_
  refine G_iload (pc := 1557) 0 dL_law_1557 rfl ?_
  refine G_iconst (pc := 1559) dL_law_1559 ?_
  refine G_iadd (pc := 1560) dL_law_1560 ?_
  refine G_sld (pc := 1561) (v := p2) hX dL_law_1561 ⟨by omega, by omega, by omega, by omega⟩ hx2 ?_
  refine G_aload_n (pc := 1562) 0 1 dL_law_1562 rfl rfl ?_
  refine G_iload (pc := 1563) 0 dL_law_1563 rfl ?_
  refine G_iconst (pc := 1565) dL_law_1565 ?_
  refine G_iadd (pc := 1566) dL_law_1566 ?_
  refine G_sld (pc := 1567) (v := p3) hX dL_law_1567 ⟨by omega, by omega, by omega, by omega⟩ hx3 ?_
  refine G_aload_n (pc := 1568) 3 4 dL_law_1568 rfl rfl ?_
  obtain ⟨d1, mc1, ms1, hr1, hm1⟩ := s_seek (l := z_l Γ) (Δ := z_d Γ) (g := p1) (p := p2) (o := p3) hst hp1 hp2 hp3 P T j w wd ad hJ hj hj2
  have hr1' : d1 ≤ 11 ∧ mc1 ≤ 50 ∧ ms1 ≤ 1300 := hr1
  refine G_callH (pc := 1569) hNc hk_seek dL_law_1569 hm1 rfl rfl (Nat.le_of_ble_eq_true rfl) ⟨⟨by show d1 + 1 ≤ 12; omega, by show 8 + (6 + 11) + 38 * d1 ≤ 462; omega⟩, by show nc + mc1 ≤ 601024; omega, by show ns + ms1 ≤ 7293034; omega⟩ (fun v1 ad1 M1 hpo => ?_)
  obtain ⟨k, P1, T1, w1, rfl, hk, rfl, ⟨a0, a40, a82, a83⟩, d2, mc2, ms2, hr2, hm2⟩ := hpo
  have hr2' : d2 ≤ 11 ∧ mc2 ≤ 650 ∧ ms2 ≤ 6000 := hr2
  rw [← a0, ← a40, ← a82, ← a83]
  refine G_istore (pc := 1572) [(6, .int (zI k)), (5, .int (zI i)), (0, .ref b), (1, .ref (ad1 (0, 0, 0, 0))), (2, .ref (ad1 (40, 0, 0, 0))), (3, .ref (ad1 (82, 0, 0, 0))), (4, .ref (ad1 (83, 0, 0, 0)))] dL_law_1572 (by decide) rfl ?_
  refine G_aload_n (pc := 1574) 2 4 dL_law_1574 rfl rfl ?_
  refine G_aload_n (pc := 1575) 0 2 dL_law_1575 rfl rfl ?_
  refine G_iload (pc := 1576) 1 dL_law_1576 rfl ?_
  refine G_iconst (pc := 1578) dL_law_1578 ?_
  refine G_iadd (pc := 1579) dL_law_1579 ?_
  refine G_sld (pc := 1580) (v := p1) hX dL_law_1580 ⟨by omega, by omega, by omega, by omega⟩ hx1 ?_
  refine G_aload_n (pc := 1581) 0 2 dL_law_1581 rfl rfl ?_
  refine G_iload (pc := 1582) 1 dL_law_1582 rfl ?_
  refine G_iconst (pc := 1584) dL_law_1584 ?_
  refine G_iadd (pc := 1585) dL_law_1585 ?_
  refine G_sld (pc := 1586) (v := p2) hX dL_law_1586 ⟨by omega, by omega, by omega, by omega⟩ hx2 ?_
  refine G_aload_n (pc := 1587) 0 2 dL_law_1587 rfl rfl ?_
  refine G_iload (pc := 1588) 1 dL_law_1588 rfl ?_
  refine G_iconst (pc := 1590) dL_law_1590 ?_
  refine G_iadd (pc := 1591) dL_law_1591 ?_
  refine G_sld (pc := 1592) (v := p3) hX dL_law_1592 ⟨by omega, by omega, by omega, by omega⟩ hx3 ?_
  refine G_callV (pc := 1593) gk_L_200 dL_law_1593 mg_40 rfl hm2 rfl rfl (Nat.le_of_ble_eq_true rfl) ⟨⟨by show d2 + 1 ≤ 12; omega, by show 8 + (9 + 11) + 38 * d2 ≤ 462; omega⟩, by show nc + mc1 + mc2 ≤ 601024; omega, by show ns + ms1 + ms2 ≤ 7293034; omega⟩ (fun v2 ad2 M2 hpo => ?_)
  obtain ⟨b', P2, T2, rfl, hb', rfl, ⟨c0, c40, c82, c83⟩, ek, ew, hJ2, hj3⟩ := hpo
  rw [← c0, ← c40, ← c82, ← c83]
  have hk2 : zKp ad ad2 := ⟨c0.trans a0, c40.trans a40, c82.trans a82, c83.trans a83⟩
  refine G_istore (pc := 1596) [(7, .int (zI b')), (6, .int (zI k)), (5, .int (zI i)), (0, .ref b), (1, .ref (ad2 (0, 0, 0, 0))), (2, .ref (ad2 (40, 0, 0, 0))), (3, .ref (ad2 (82, 0, 0, 0))), (4, .ref (ad2 (83, 0, 0, 0)))] dL_law_1596 (by decide) rfl ?_
  refine G_aload_n (pc := 1598) 2 5 dL_law_1598 rfl rfl ?_
  refine G_callVd (pc := 1599) gk_L_129 dL_law_1599 mg_40 rfl (c_X7_thrown (Q := P2) hJ2.2.2.2.2.2.1) rfl rfl (Nat.le_of_ble_eq_true rfl) ⟨⟨Nat.le_of_ble_eq_true rfl, Nat.le_of_ble_eq_true rfl⟩, by show nc + mc1 + mc2 + 0 ≤ 601024; omega, by show ns + ms1 + ms2 + 0 ≤ 7293034; omega⟩ ?_
  rw [ek]
  refine G_iload (pc := 1602) 1 dL_law_1602 rfl ?_
  refine G_icmp_eq (pc := 1604) 1609 dL_law_1604 (by decide) ⟨by omega, by omega⟩ ⟨by omega, by omega⟩ (fun _ => ?_) (fun q => absurd rfl q)
  refine G_iload (pc := 1609) 1 dL_law_1609 rfl ?_
  have hfin : ∀ X9 : zK → Nat, X9 = ad2 → G Γ zRL cL_law 9 RL X9 (mm (z_d Γ) X9 P2 T2 (zXl (z_d Γ) w1 wd)) (nc + mc1 + mc2) (ns + ms1 + ms2) 1626 [(7, .int (zI b')), (6, .int (zI k)), (5, .int (zI i)), (0, .ref b), (1, .ref (X9 (0, 0, 0, 0))), (2, .ref (X9 (40, 0, 0, 0))), (3, .ref (X9 (82, 0, 0, 0))), (4, .ref (X9 (83, 0, 0, 0)))] [] := by
    intro X9 e9
    subst e9
    refine G_goto (pc := 1626) 2562 dL_law_1626 (by decide) ?_
    refine G_perm (lv' := zLv X9 b i) [2, 3, 4, 5, 6, 7] rfl ?_
    exact G_more (by omega) (by omega) (kk P2 T2 _ _ X9 hJ2 hj3 hk2)
  refine G_if_ne (pc := 1611) 1626 dL_law_1611 (by decide) ⟨by omega, by omega⟩ (fun _ => hfin ad2 rfl) (fun e0 => ?_)
  refine G_aload_n (pc := 1614) 3 6 dL_law_1614 rfl rfl ?_
  refine G_iconst (pc := 1615) dL_law_1615 ?_
  refine G_lald (pc := 1616) dL_law_1616 zXl_82 ?_
  refine G_iload (pc := 1617) 0 dL_law_1617 rfl ?_
  refine G_i2l (pc := 1619) dL_law_1619 hb' ?_
  rw [ew e0]
  refine G_lcmpE (pc := 1620) dL_law_1620 ?_
  refine G_if_eq (pc := 1621) 1626 dL_law_1621 (by decide) zR_0 (fun _ => ?_) (fun q => absurd rfl q)
  have h9 := hfin ad2 rfl
  rw [ew e0] at h9
  exact h9
