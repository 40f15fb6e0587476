/-! ===== the law: the ledger ===== -/
set_option maxHeartbeats 4000000 in
set_option maxRecDepth 100000 in
theorem l_k {Γ : zCx} {ad : zK → Nat} {P : zP} {V : zS} {nc ns b : Nat} {tm rows stp : Int} {w : Int64} {A : zMem} (hJ : zJ P V) (hR : nc ≤ 600086 ∧ ns ≤ 7301442) (kk : G Γ zRW cL_law 21 RL ad (mm (z_d Γ) ad P V (pm (z_d Γ) ad P V A)) nc ns 936 [(10, .int (zI (zcs V 3))), (9, .int (zI (zcs V 2))), (8, .int (zI (zcs V 0))), (6, .long w), (5, .int (zI stp)), (4, .int (zI (V (1, 0, 0, 0) 1))), (3, .ref (ad (0, 0, 0, 0))), (2, .ref (ad (200, 0, 0, 0))), (1, .int (zI tm)), (0, .ref b)] []) :
    ∀ (m : Nat) (k x0 x2 x3 : Int), (0 ≤ k ∧ k ≤ V (1, 0, 0, 0) 1) → x0 = sm (zcs1 V 0) 0 k → x2 = sm (zcs1 V 2) 0 k → x3 = sm (zcs1 V 3) 0 k → (V (1, 0, 0, 0) 1 - k).toNat < m → G Γ zRW cL_law 21 RL ad (mm (z_d Γ) ad P V (pm (z_d Γ) ad P V A)) nc ns 811 [(11, .int (zI k)), (10, .int (zI x3)), (9, .int (zI x2)), (8, .int (zI x0)), (6, .long w), (5, .int (zI stp)), (4, .int (zI (V (1, 0, 0, 0) 1))), (3, .ref (ad (0, 0, 0, 0))), (2, .ref (ad (200, 0, 0, 0))), (1, .int (zI tm)), (0, .ref b)] [] := by
  have hP := hJ.wp
  have hW := hJ.wv.W
  have hl := hW.l
  intro m
  induction m with
  | zero => intro k x0 x2 x3 _ _ _ _ h; omega
  | succ m ih =>
    intro k x0 x2 x3 hkb h0 h2 h3 hm
    refine G_iload (pc := 811) 0 dL_law_811 rfl ?_
    refine G_iload (pc := 813) 6 dL_law_813 rfl ?_
    refine G_icmp_ge (pc := 815) 936 dL_law_815 (by decide) ⟨by omega, by omega⟩ ⟨by omega, by omega⟩ (fun c815 => ?_) (fun c815 => ?_)
    · have e9 : k = V (1, 0, 0, 0) 1 := by omega
      have e0 : x0 = zcs V 0 := by rw [h0, e9]; rfl
      have e2 : x2 = zcs V 2 := by rw [h2, e9]; rfl
      have e3 : x3 = zcs V 3 := by rw [h3, e9]; rfl
      refine G_perm (lv' := [(10, .int (zI x3)), (9, .int (zI x2)), (8, .int (zI x0)), (6, .long w), (5, .int (zI stp)), (4, .int (zI (V (1, 0, 0, 0) 1))), (3, .ref (ad (0, 0, 0, 0))), (2, .ref (ad (200, 0, 0, 0))), (1, .int (zI tm)), (0, .ref b)]) [1, 2, 3, 4, 5, 6, 7, 8, 9, 10] rfl ?_
      rw [e0, e2, e3]
      exact kk
    · obtain ⟨f1, f2, f3⟩ := hJ.k0.2.2.2.1 k hkb.1 (by omega)
      have ea : V (2, 0, 0, 0) (5 * k + 0) = V (2, 0, 0, 0) (5 * k) := by rw [Int.add_zero]
      have eb : V (2, 0, 0, 0) (5 * (k - 1) + 0) = V (2, 0, 0, 0) (5 * (k - 1)) := by rw [Int.add_zero]
      obtain ⟨z1, z2⟩ := hW.1 (2, 0, 0, 0) (5 * k + 0)
      obtain ⟨z3, z4⟩ := hW.1 (2, 0, 0, 0) (5 * k + 4)
      obtain ⟨z5, z6⟩ := hW.1 (2, 0, 0, 0) (5 * (k - 1) + 4)
      obtain ⟨z7, z8⟩ := hW.1 (2, 0, 0, 0) (5 * (k - 1) + 0)
      refine G_iload (pc := 818) 3 dL_law_818 rfl ?_
      refine G_aload_n (pc := 820) 3 7 dL_law_820 rfl rfl ?_
      refine G_iload (pc := 821) 0 dL_law_821 rfl ?_
      refine G_iconst (pc := 823) dL_law_823 ?_
      refine G_q (pc := 824) (x := (V (2, 0, 0, 0) (5 * k + 0))) gk_L_106 dL_law_824 (c_X6_row hP hW ⟨by omega, by omega⟩ ⟨by omega, by omega⟩) rfl rfl (Nat.le_of_ble_eq_true rfl) (Nat.le_of_ble_eq_true rfl) hR ?_
      refine G_ez (pc := 827) dL_law_827 dL_law_830 dL_law_831 dL_law_834 ⟨by omega, by omega⟩ (fun v0 hv0 => ?_)
      refine G_iadd (pc := 835) dL_law_835 ?_
      refine G_istore (pc := 836) [(8, .int (zI (x0 + v0))), (11, .int (zI k)), (10, .int (zI x3)), (9, .int (zI x2)), (6, .long w), (5, .int (zI stp)), (4, .int (zI (V (1, 0, 0, 0) 1))), (3, .ref (ad (0, 0, 0, 0))), (2, .ref (ad (200, 0, 0, 0))), (1, .int (zI tm)), (0, .ref b)] dL_law_836 (by decide) rfl ?_
      refine G_iload (pc := 838) 3 dL_law_838 rfl ?_
      refine G_aload_n (pc := 840) 3 7 dL_law_840 rfl rfl ?_
      refine G_iload (pc := 841) 1 dL_law_841 rfl ?_
      refine G_iconst (pc := 843) dL_law_843 ?_
      refine G_q (pc := 844) (x := (V (2, 0, 0, 0) (5 * k + 0))) gk_L_106 dL_law_844 (c_X6_row hP hW ⟨by omega, by omega⟩ ⟨by omega, by omega⟩) rfl rfl (Nat.le_of_ble_eq_true rfl) (Nat.le_of_ble_eq_true rfl) hR ?_
      refine G_iconst (pc := 847) dL_law_847 ?_
      refine G_eqb (pc := 848) dL_law_848 dL_law_851 dL_law_852 dL_law_855 ⟨by omega, by omega⟩ ⟨by omega, by omega⟩ (fun v2 hv2 => ?_)
      refine G_iadd (pc := 856) dL_law_856 ?_
      refine G_istore (pc := 857) [(9, .int (zI (x2 + v2))), (8, .int (zI (x0 + v0))), (11, .int (zI k)), (10, .int (zI x3)), (6, .long w), (5, .int (zI stp)), (4, .int (zI (V (1, 0, 0, 0) 1))), (3, .ref (ad (0, 0, 0, 0))), (2, .ref (ad (200, 0, 0, 0))), (1, .int (zI tm)), (0, .ref b)] dL_law_857 (by decide) rfl ?_
      refine G_iload (pc := 859) 3 dL_law_859 rfl ?_
      refine G_aload_n (pc := 861) 3 7 dL_law_861 rfl rfl ?_
      refine G_iload (pc := 862) 2 dL_law_862 rfl ?_
      refine G_iconst (pc := 864) dL_law_864 ?_
      refine G_q (pc := 865) (x := (V (2, 0, 0, 0) (5 * k + 0))) gk_L_106 dL_law_865 (c_X6_row hP hW ⟨by omega, by omega⟩ ⟨by omega, by omega⟩) rfl rfl (Nat.le_of_ble_eq_true rfl) (Nat.le_of_ble_eq_true rfl) hR ?_
      refine G_iconst (pc := 868) dL_law_868 ?_
      refine G_eqb (pc := 869) dL_law_869 dL_law_872 dL_law_873 dL_law_876 ⟨by omega, by omega⟩ ⟨by omega, by omega⟩ (fun v3 hv3 => ?_)
      refine G_iadd (pc := 877) dL_law_877 ?_
      refine G_istore (pc := 878) [(10, .int (zI (x3 + v3))), (9, .int (zI (x2 + v2))), (8, .int (zI (x0 + v0))), (11, .int (zI k)), (6, .long w), (5, .int (zI stp)), (4, .int (zI (V (1, 0, 0, 0) 1))), (3, .ref (ad (0, 0, 0, 0))), (2, .ref (ad (200, 0, 0, 0))), (1, .int (zI tm)), (0, .ref b)] dL_law_878 (by decide) rfl ?_
      have t930 : G Γ zRW cL_law 21 RL ad (mm (z_d Γ) ad P V (pm (z_d Γ) ad P V A)) nc ns 930 [(10, .int (zI (x3 + v3))), (9, .int (zI (x2 + v2))), (8, .int (zI (x0 + v0))), (11, .int (zI k)), (6, .long w), (5, .int (zI stp)), (4, .int (zI (V (1, 0, 0, 0) 1))), (3, .ref (ad (0, 0, 0, 0))), (2, .ref (ad (200, 0, 0, 0))), (1, .int (zI tm)), (0, .ref b)] [] := by
        refine G_iinc (pc := 930) 3 [(11, .int (zI (k + 1))), (10, .int (zI (x3 + v3))), (9, .int (zI (x2 + v2))), (8, .int (zI (x0 + v0))), (6, .long w), (5, .int (zI stp)), (4, .int (zI (V (1, 0, 0, 0) 1))), (3, .ref (ad (0, 0, 0, 0))), (2, .ref (ad (200, 0, 0, 0))), (1, .int (zI tm)), (0, .ref b)] dL_law_930 rfl (by decide) rfl ?_
        refine G_goto (pc := 933) 811 dL_law_933 (by decide) ?_
        refine G_perm (lv' := [(11, .int (zI (k + 1))), (10, .int (zI (x3 + v3))), (9, .int (zI (x2 + v2))), (8, .int (zI (x0 + v0))), (6, .long w), (5, .int (zI stp)), (4, .int (zI (V (1, 0, 0, 0) 1))), (3, .ref (ad (0, 0, 0, 0))), (2, .ref (ad (200, 0, 0, 0))), (1, .int (zI tm)), (0, .ref b)]) [0, 1, 2, 3, 4, 5, 6, 7, 8, 9, 10] rfl ?_
        refine ih (k + 1) (x0 + v0) (x2 + v2) (x3 + v3) ⟨by omega, by omega⟩ ?_ ?_ ?_ (by omega)
        · rw [sm_last _ 0 k rfl hkb.1]
          have e : zcs1 V 0 k = v0 := by
            unfold zcs1
            rw [← ea]
            rcases hv0 with ⟨a, c⟩ | ⟨a, c⟩
            · rw [if_pos c, a]
            · rw [if_neg c, a]
          omega
        · rw [sm_last _ 0 k rfl hkb.1]
          have e : zcs1 V 2 k = v2 := by
            unfold zcs1
            rw [← ea]
            rcases hv2 with ⟨a, c⟩ | ⟨a, c⟩
            · rw [if_pos c, a]
            · rw [if_neg c, a]
          omega
        · rw [sm_last _ 0 k rfl hkb.1]
          have e : zcs1 V 3 k = v3 := by
            unfold zcs1
            rw [← ea]
            rcases hv3 with ⟨a, c⟩ | ⟨a, c⟩
            · rw [if_pos c, a]
            · rw [if_neg c, a]
          omega
      have t904 : G Γ zRW cL_law 21 RL ad (mm (z_d Γ) ad P V (pm (z_d Γ) ad P V A)) nc ns 904 [(10, .int (zI (x3 + v3))), (9, .int (zI (x2 + v2))), (8, .int (zI (x0 + v0))), (11, .int (zI k)), (6, .long w), (5, .int (zI stp)), (4, .int (zI (V (1, 0, 0, 0) 1))), (3, .ref (ad (0, 0, 0, 0))), (2, .ref (ad (200, 0, 0, 0))), (1, .int (zI tm)), (0, .ref b)] [] := by
        refine G_aload_n (pc := 904) 3 7 dL_law_904 rfl rfl ?_
        refine G_iload (pc := 905) 3 dL_law_905 rfl ?_
        refine G_iconst (pc := 907) dL_law_907 ?_
        refine G_q (pc := 908) (x := (V (2, 0, 0, 0) (5 * k + 0))) gk_L_106 dL_law_908 (c_X6_row hP hW ⟨by omega, by omega⟩ ⟨by omega, by omega⟩) rfl rfl (Nat.le_of_ble_eq_true rfl) (Nat.le_of_ble_eq_true rfl) hR ?_
        refine G_iconst (pc := 911) dL_law_911 ?_
        refine G_icmp_ne (pc := 912) 930 dL_law_912 (by decide) ⟨by omega, by omega⟩ ⟨by omega, by omega⟩ (fun c912 => ?_) (fun c912 => ?_)
        · exact t930
        · have f4 := f3 (by omega)
          refine G_aload_n (pc := 915) 3 7 dL_law_915 rfl rfl ?_
          refine G_iload (pc := 916) 3 dL_law_916 rfl ?_
          refine G_iconst (pc := 918) dL_law_918 ?_
          refine G_isub (pc := 919) dL_law_919 ?_
          refine G_iconst (pc := 920) dL_law_920 ?_
          refine G_q (pc := 921) (x := (V (2, 0, 0, 0) (5 * (k - 1) + 0))) gk_L_106 dL_law_921 (c_X6_row hP hW ⟨by omega, by omega⟩ ⟨by omega, by omega⟩) rfl rfl (Nat.le_of_ble_eq_true rfl) (Nat.le_of_ble_eq_true rfl) hR ?_
          refine G_iconst (pc := 924) dL_law_924 ?_
          refine G_icmp_eq (pc := 925) 930 dL_law_925 (by decide) ⟨by omega, by omega⟩ ⟨by omega, by omega⟩ (fun c925 => ?_) (fun c925 => absurd c925 (by omega))
          exact t930
      refine G_iload (pc := 880) 3 dL_law_880 rfl ?_
      refine G_if_le (pc := 882) 904 dL_law_882 (by decide) ⟨by omega, by omega⟩ (fun c882 => ?_) (fun c882 => ?_)
      · exact t904
      · have f5 := f2 (by omega)
        refine G_aload_n (pc := 885) 3 7 dL_law_885 rfl rfl ?_
        refine G_iload (pc := 886) 3 dL_law_886 rfl ?_
        refine G_iconst (pc := 888) dL_law_888 ?_
        refine G_q (pc := 889) (x := (V (2, 0, 0, 0) (5 * k + 4))) gk_L_106 dL_law_889 (c_X6_row hP hW ⟨by omega, by omega⟩ ⟨by omega, by omega⟩) rfl rfl (Nat.le_of_ble_eq_true rfl) (Nat.le_of_ble_eq_true rfl) hR ?_
        refine G_aload_n (pc := 892) 3 7 dL_law_892 rfl rfl ?_
        refine G_iload (pc := 893) 3 dL_law_893 rfl ?_
        refine G_iconst (pc := 895) dL_law_895 ?_
        refine G_isub (pc := 896) dL_law_896 ?_
        refine G_iconst (pc := 897) dL_law_897 ?_
        refine G_q (pc := 898) (x := (V (2, 0, 0, 0) (5 * (k - 1) + 4))) gk_L_106 dL_law_898 (c_X6_row hP hW ⟨by omega, by omega⟩ ⟨by omega, by omega⟩) rfl rfl (Nat.le_of_ble_eq_true rfl) (Nat.le_of_ble_eq_true rfl) hR ?_
        refine G_icmp_lt (pc := 901) 928 dL_law_901 (by decide) ⟨by omega, by omega⟩ ⟨by omega, by omega⟩ (fun c901 => absurd c901 (by omega)) (fun c901 => ?_)
        exact t904
