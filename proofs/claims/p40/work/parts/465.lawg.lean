/-! ===== the law: the groups ===== -/
set_option maxHeartbeats 4000000 in
set_option maxRecDepth 100000 in
theorem l_g {Γ : zCx} {P : zP} {V : zS} {nc0 ns0 b : Nat} {tm rows stp : Int} {w : Int64} (hJ : zJ P V) (hR0 : nc0 + 4 ≤ 600086 ∧ ns0 + 24 ≤ 7301442) (kk : ∀ ad : zK → Nat, G Γ zRW cL_law 21 RL ad (mm (z_d Γ) ad P V (pm (z_d Γ) ad P V z00)) (nc0 + 4) (ns0 + 24) 799 [(6, .long w), (5, .int (zI stp)), (4, .int (zI rows)), (3, .ref (ad (0, 0, 0, 0))), (2, .ref (ad (200, 0, 0, 0))), (1, .int (zI tm)), (0, .ref b)] []) :
    ∀ (m : Nat) (n : Int) (ad : zK → Nat) (nc ns : Nat), (0 ≤ n ∧ n ≤ P 3 0 0) → ((nc : Int) ≤ nc0 + n ∧ (ns : Int) ≤ ns0 + 6 * n) → (P 3 0 0 - n).toNat < m → G Γ zRW cL_law 21 RL ad (mm (z_d Γ) ad P V (pm (z_d Γ) ad P V z00)) nc ns 100 [(8, .int (zI n)), (6, .long w), (5, .int (zI stp)), (4, .int (zI rows)), (3, .ref (ad (0, 0, 0, 0))), (2, .ref (ad (200, 0, 0, 0))), (1, .int (zI tm)), (0, .ref b)] [] := by
  have hP := hJ.wp
  have hW := hJ.wv.W
  have hN := hP.n
  intro m
  induction m with
  | zero => intro n ad nc ns _ _ h; omega
  | succ m ih =>
    intro n ad nc ns hnb hcs hm
    have hR : nc ≤ 600086 ∧ ns ≤ 7301442 := ⟨by omega, by omega⟩
    refine G_iload (pc := 100) 0 dL_law_100 rfl ?_
    refine G_aload_n (pc := 102) 2 5 dL_law_102 rfl rfl ?_
    refine G_getfV (pc := 103) (w := P 3 0 0) fl_L_35 dL_law_103 (wq rfl pg_200) rfl (by rw [hJ.wv.gn]) ?_
    refine G_icmp_ge (pc := 106) 799 dL_law_106 (by decide) ⟨by omega, by omega⟩ ⟨by omega, by omega⟩ (fun c106 => ?_) (fun c106 => ?_)
    · refine G_perm (lv' := [(6, .long w), (5, .int (zI stp)), (4, .int (zI rows)), (3, .ref (ad (0, 0, 0, 0))), (2, .ref (ad (200, 0, 0, 0))), (1, .int (zI tm)), (0, .ref b)]) [1, 2, 3, 4, 5, 6, 7] rfl ?_
      exact G_more (by omega) (by omega) (kk ad)
    · have hg : inG P n := ⟨hnb.1, by omega⟩
      have ht : inT P (P 4 n 0) := hP.g hg
      have hT := hP.t ht
      have hg1 := hg.1
      have hg2 := hg.2
      have ht1 := ht.1
      have ht2 := ht.2
      have hni := znin_R (g := n) hJ
      refine G_aload_n (pc := 109) 2 5 dL_law_109 rfl rfl ?_
      refine G_getf (pc := 110) fl_L_39 dL_law_110 (wq rfl pg_200) rfl ?_
      refine G_iload (pc := 113) 0 dL_law_113 rfl ?_
      refine G_ialdV (pc := 115) (P 4 n 0) dL_law_115 (wq rfl pg_213) ⟨by omega, by omega, by omega, by omega⟩ (hJ.wv.of hg) ?_
      refine G_istore (pc := 116) [(9, .int (zI (P 4 n 0))), (8, .int (zI n)), (6, .long w), (5, .int (zI stp)), (4, .int (zI rows)), (3, .ref (ad (0, 0, 0, 0))), (2, .ref (ad (200, 0, 0, 0))), (1, .int (zI tm)), (0, .ref b)] dL_law_116 (by decide) rfl ?_
      refine G_iconst (pc := 118) dL_law_118 ?_
      refine G_istore (pc := 119) [(10, .int (zI 0)), (9, .int (zI (P 4 n 0))), (8, .int (zI n)), (6, .long w), (5, .int (zI stp)), (4, .int (zI rows)), (3, .ref (ad (0, 0, 0, 0))), (2, .ref (ad (200, 0, 0, 0))), (1, .int (zI tm)), (0, .ref b)] dL_law_119 (by decide) rfl ?_
      refine G_bipush (pc := 121) dL_law_121 (by decide) ?_
      refine G_rI (pc := 123) (N := 6) (230, 0, 0, 0) dL_law_123 ((mm_ge _ (by decide)).trans ((pm_out _ (by decide)).trans rfl)) rfl ⟨by omega, by omega⟩ ⟨by show nc + 1 ≤ 600086; omega, by show ns + 6 ≤ 7301442; omega⟩ (fun ad1 had1 => ?_)
      rw [zA6_n had1, ← had1 (0, 0, 0, 0) (by simp), ← had1 (200, 0, 0, 0) (by simp)]
      have hR1 : nc + 1 ≤ 600086 ∧ ns + 6 ≤ 7301442 := ⟨by omega, by omega⟩
      refine G_astore (pc := 125) [(11, .ref (ad1 (230, 0, 0, 0))), (10, .int (zI 0)), (9, .int (zI (P 4 n 0))), (8, .int (zI n)), (6, .long w), (5, .int (zI stp)), (4, .int (zI rows)), (3, .ref (ad1 (0, 0, 0, 0))), (2, .ref (ad1 (200, 0, 0, 0))), (1, .int (zI tm)), (0, .ref b)] dL_law_125 (by decide) rfl ?_
      refine G_iconst (pc := 127) dL_law_127 ?_
      refine G_istore (pc := 128) [(12, .int (zI 0)), (11, .ref (ad1 (230, 0, 0, 0))), (10, .int (zI 0)), (9, .int (zI (P 4 n 0))), (8, .int (zI n)), (6, .long w), (5, .int (zI stp)), (4, .int (zI rows)), (3, .ref (ad1 (0, 0, 0, 0))), (2, .ref (ad1 (200, 0, 0, 0))), (1, .int (zI tm)), (0, .ref b)] dL_law_128 (by decide) rfl ?_
      refine G_iconst (pc := 130) dL_law_130 ?_
      refine G_istore (pc := 131) [(13, .int (zI 0)), (12, .int (zI 0)), (11, .ref (ad1 (230, 0, 0, 0))), (10, .int (zI 0)), (9, .int (zI (P 4 n 0))), (8, .int (zI n)), (6, .long w), (5, .int (zI stp)), (4, .int (zI rows)), (3, .ref (ad1 (0, 0, 0, 0))), (2, .ref (ad1 (200, 0, 0, 0))), (1, .int (zI tm)), (0, .ref b)] dL_law_131 (by decide) rfl ?_
      refine G_iconst (pc := 133) dL_law_133 ?_
      refine G_istore (pc := 134) [(14, .int (zI 0)), (13, .int (zI 0)), (12, .int (zI 0)), (11, .ref (ad1 (230, 0, 0, 0))), (10, .int (zI 0)), (9, .int (zI (P 4 n 0))), (8, .int (zI n)), (6, .long w), (5, .int (zI stp)), (4, .int (zI rows)), (3, .ref (ad1 (0, 0, 0, 0))), (2, .ref (ad1 (200, 0, 0, 0))), (1, .int (zI tm)), (0, .ref b)] dL_law_134 (by decide) rfl ?_
      refine G_aload_n (pc := 136) 2 11 dL_law_136 rfl rfl ?_
      refine G_getf (pc := 137) fl_L_43 dL_law_137 (wq rfl pg_200) rfl ?_
      refine G_iload (pc := 140) 6 dL_law_140 rfl ?_
      refine G_aldA (pc := 142) (t := 8) rfl dL_law_142 (wq rfl pg_220) ⟨by omega, by omega, by omega, by omega⟩ rfl ?_
      refine G_astore (pc := 143) [(15, .ref (ad1 (221, n, 0, 0))), (14, .int (zI 0)), (13, .int (zI 0)), (12, .int (zI 0)), (11, .ref (ad1 (230, 0, 0, 0))), (10, .int (zI 0)), (9, .int (zI (P 4 n 0))), (8, .int (zI n)), (6, .long w), (5, .int (zI stp)), (4, .int (zI rows)), (3, .ref (ad1 (0, 0, 0, 0))), (2, .ref (ad1 (200, 0, 0, 0))), (1, .int (zI tm)), (0, .ref b)] dL_law_143 (by decide) rfl ?_
      refine G_aload (pc := 145) 0 dL_law_145 rfl ?_
      refine G_alenV (pc := 147) (t := 1) 6 rfl dL_law_147 (wq rfl (pg_221 (by omega))) rfl ?_
      refine G_istore (pc := 148) [(16, .int (zI 6)), (15, .ref (ad1 (221, n, 0, 0))), (14, .int (zI 0)), (13, .int (zI 0)), (12, .int (zI 0)), (11, .ref (ad1 (230, 0, 0, 0))), (10, .int (zI 0)), (9, .int (zI (P 4 n 0))), (8, .int (zI n)), (6, .long w), (5, .int (zI stp)), (4, .int (zI rows)), (3, .ref (ad1 (0, 0, 0, 0))), (2, .ref (ad1 (200, 0, 0, 0))), (1, .int (zI tm)), (0, .ref b)] dL_law_148 (by decide) rfl ?_
      refine G_iconst (pc := 150) dL_law_150 ?_
      refine G_istore (pc := 151) [(17, .int (zI 0)), (16, .int (zI 6)), (15, .ref (ad1 (221, n, 0, 0))), (14, .int (zI 0)), (13, .int (zI 0)), (12, .int (zI 0)), (11, .ref (ad1 (230, 0, 0, 0))), (10, .int (zI 0)), (9, .int (zI (P 4 n 0))), (8, .int (zI n)), (6, .long w), (5, .int (zI stp)), (4, .int (zI rows)), (3, .ref (ad1 (0, 0, 0, 0))), (2, .ref (ad1 (200, 0, 0, 0))), (1, .int (zI tm)), (0, .ref b)] dL_law_151 (by decide) rfl ?_
      refine G_perm (lv' := [(17, .int (zI 0)), (16, .int (zI 6)), (15, .ref (ad1 (221, n, 0, 0))), (14, .int (zI 0)), (13, .int (zI 0)), (12, .int (zI 0)), (11, .ref (ad1 (230, 0, 0, 0))), (10, .int (zI 0)), (9, .int (zI (P 4 n 0))), (8, .int (zI n)), (6, .long w), (5, .int (zI stp)), (4, .int (zI rows)), (3, .ref (ad1 (0, 0, 0, 0))), (2, .ref (ad1 (200, 0, 0, 0))), (1, .int (zI tm)), (0, .ref b)]) [0, 1, 2, 3, 4, 5, 6, 7, 8, 9, 10, 11, 12, 13, 14, 15, 16] rfl ?_
      refine l_in (A := zA6 (z_d Γ) (fun _ => 0)) hJ hg ?_ 7 0 0 ⟨by omega, by omega⟩ rfl (by omega)
      refine G_iconst (pc := 188) dL_law_188 ?_
      refine G_istore (pc := 189) [(15, .int (zI 0)), (14, .int (zI 0)), (13, .int (zI (znin V n))), (12, .int (zI 0)), (11, .ref (ad1 (230, 0, 0, 0))), (10, .int (zI 0)), (9, .int (zI (P 4 n 0))), (8, .int (zI n)), (6, .long w), (5, .int (zI stp)), (4, .int (zI rows)), (3, .ref (ad1 (0, 0, 0, 0))), (2, .ref (ad1 (200, 0, 0, 0))), (1, .int (zI tm)), (0, .ref b)] dL_law_189 (by decide) rfl ?_
      refine G_perm (lv' := [(15, .int (zI 0)), (14, .int (zI 0)), (13, .int (zI (znin V n))), (12, .int (zI 0)), (11, .ref (ad1 (230, 0, 0, 0))), (10, .int (zI 0)), (9, .int (zI (P 4 n 0))), (8, .int (zI n)), (6, .long w), (5, .int (zI stp)), (4, .int (zI rows)), (3, .ref (ad1 (0, 0, 0, 0))), (2, .ref (ad1 (200, 0, 0, 0))), (1, .int (zI tm)), (0, .ref b)]) [0, 1, 2, 3, 4, 5, 6, 7, 8, 9, 10, 11, 12, 13, 14] rfl ?_
      refine l_p hJ hR1 hg (fun F all out hF ha hu => ?_) (P 1 (P 4 n 0) 0 + 1).toNat 0 (fun _ => 0) 0 0 ⟨by omega, by omega⟩ (fun r _ _ => (sm_end (by omega)).symm) (sm_end (by omega)).symm (sm_end (by omega)).symm (by omega)
      refine G_iconst (pc := 578) dL_law_578 ?_
      refine G_istore (pc := 579) [(15, .int (zI 0)), (14, .int (zI out)), (13, .int (zI (znin V n))), (12, .int (zI (P 1 (P 4 n 0) 0))), (11, .ref (ad1 (230, 0, 0, 0))), (10, .int (zI all)), (9, .int (zI (P 4 n 0))), (8, .int (zI n)), (6, .long w), (5, .int (zI stp)), (4, .int (zI rows)), (3, .ref (ad1 (0, 0, 0, 0))), (2, .ref (ad1 (200, 0, 0, 0))), (1, .int (zI tm)), (0, .ref b)] dL_law_579 (by decide) rfl ?_
      refine G_perm (lv' := [(15, .int (zI 0)), (14, .int (zI out)), (13, .int (zI (znin V n))), (12, .int (zI (P 1 (P 4 n 0) 0))), (11, .ref (ad1 (230, 0, 0, 0))), (10, .int (zI all)), (9, .int (zI (P 4 n 0))), (8, .int (zI n)), (6, .long w), (5, .int (zI stp)), (4, .int (zI rows)), (3, .ref (ad1 (0, 0, 0, 0))), (2, .ref (ad1 (200, 0, 0, 0))), (1, .int (zI tm)), (0, .ref b)]) [0, 1, 2, 3, 4, 5, 6, 7, 8, 9, 10, 11, 12, 13, 14] rfl ?_
      refine l_r hJ hR1 hg hF ?_ 7 0 ⟨by omega, by omega⟩ (by omega)
      have hl1 := zC_lag hJ hg
      have hl2 := zC_aside (P := P) (V := V) (g := n)
      have hb1 := zlag_s hJ hg (n := P 1 (P 4 n 0) 0) (by omega) (by omega)
      have hb2 := zou_s hJ hg (n := P 1 (P 4 n 0) 0) (by omega) (by omega)
      have hb3 := zkp_s hJ hg
      have hb4 := zas_s hJ hg
      rw [← ha] at hl1 hb1
      rw [← hu] at hl2 hb2
      have hmn := zC_mean hJ hg
      have hnx := zC_next hJ hg
      have hnb2 := zng_le hP hW hg hW.k.1 hW.k.2.2
      have hck := hW.k
      have t793 : G Γ zRW cL_law 21 RL ad1 (mm (z_d Γ) ad1 P V (pm (z_d Γ) ad1 P V (zA6 (z_d Γ) F))) (nc + 1) (ns + 6) 793 [(14, .int (zI out)), (10, .int (zI all)), (9, .int (zI (P 4 n 0))), (8, .int (zI n)), (6, .long w), (5, .int (zI stp)), (4, .int (zI rows)), (3, .ref (ad1 (0, 0, 0, 0))), (2, .ref (ad1 (200, 0, 0, 0))), (1, .int (zI tm)), (0, .ref b)] [] := by
        refine G_iinc (pc := 793) 3 [(8, .int (zI (n + 1))), (14, .int (zI out)), (10, .int (zI all)), (9, .int (zI (P 4 n 0))), (6, .long w), (5, .int (zI stp)), (4, .int (zI rows)), (3, .ref (ad1 (0, 0, 0, 0))), (2, .ref (ad1 (200, 0, 0, 0))), (1, .int (zI tm)), (0, .ref b)] dL_law_793 rfl (by decide) rfl ?_
        refine G_goto (pc := 796) 100 dL_law_796 (by decide) ?_
        refine G_perm (lv' := [(8, .int (zI (n + 1))), (6, .long w), (5, .int (zI stp)), (4, .int (zI rows)), (3, .ref (ad1 (0, 0, 0, 0))), (2, .ref (ad1 (200, 0, 0, 0))), (1, .int (zI tm)), (0, .ref b)]) [0, 4, 5, 6, 7, 8, 9, 10] rfl ?_
        refine G_ren (ad' := ad1) (M' := (mm (z_d Γ) ad1 P V (pm (z_d Γ) ad1 P V z00))) (fun k => k) (fun k e hk => ⟨zA6_d hk, rfl⟩) (fun k k' _ _ e => e) ?_
        exact ih (n + 1) ad1 (nc + 1) (ns + 6) ⟨by omega, by omega⟩ ⟨by omega, by omega⟩ (by omega)
      refine G_iload (pc := 734) 1 dL_law_734 rfl ?_
      refine G_aload_n (pc := 736) 3 7 dL_law_736 rfl rfl ?_
      refine G_iload (pc := 737) 2 dL_law_737 rfl ?_
      refine G_q (pc := 739) (x := (sm (fun p => ztk P V (P 4 n 0) p) 0 (P 1 (P 4 n 0) 0))) gk_L_87 dL_law_739 (c_X6_kept hP ht hW) rfl rfl (Nat.le_of_ble_eq_true rfl) (Nat.le_of_ble_eq_true rfl) hR1 ?_
      refine G_icmp_gt (pc := 742) 791 dL_law_742 (by decide) ⟨by omega, by omega⟩ ⟨by omega, by omega⟩ (fun c742 => absurd c742 (by omega)) (fun c742 => ?_)
      refine G_aload_n (pc := 745) 3 7 dL_law_745 rfl rfl ?_
      refine G_iload (pc := 746) 3 dL_law_746 rfl ?_
      refine G_q (pc := 748) (x := (sm (fun p => zco P V n 4 p) 0 (P 1 (P 4 n 0) 0))) gk_L_91 dL_law_748 (c_X6_aside hP hg hW) rfl rfl (Nat.le_of_ble_eq_true rfl) (Nat.le_of_ble_eq_true rfl) hR1 ?_
      refine G_iload (pc := 751) 0 dL_law_751 rfl ?_
      refine G_icmp_gt (pc := 753) 791 dL_law_753 (by decide) ⟨by omega, by omega⟩ ⟨by omega, by omega⟩ (fun c753 => absurd c753 (by omega)) (fun c753 => ?_)
      refine G_aload_n (pc := 756) 3 7 dL_law_756 rfl rfl ?_
      refine G_iload (pc := 757) 3 dL_law_757 rfl ?_
      refine G_callVd (pc := 759) gk_L_94 dL_law_759 mg_0 rfl (c_X6_meanTries hP hg hW hmn.1 hmn.2.1) rfl rfl (Nat.le_of_ble_eq_true rfl) ⟨⟨Nat.le_of_ble_eq_true rfl, Nat.le_of_ble_eq_true rfl⟩, hR1.1, hR1.2⟩ ?_
      refine G_ldc2d (pc := 762) cd_98 dL_law_762 ?_
      refine G_dcmpl (pc := 765) dL_law_765 (fun v hv e => ?_)
      have e2 : ¬ 0 < v := fun q => zmd_3 hmn.1 hmn.2.1 hmn.2.2 (by rw [e, ← zI_0]; exact (zI_lt zR_0 hv).mpr q)
      refine G_if_gt (pc := 766) 791 dL_law_766 (by decide) hv (fun c766 => absurd c766 (by omega)) (fun c766 => ?_)
      refine G_aload_n (pc := 769) 3 7 dL_law_769 rfl rfl ?_
      refine G_iload (pc := 770) 3 dL_law_770 rfl ?_
      refine G_q (pc := 772) (x := (lp (zng P V n (V (0, 0, 0, 0) 6) (V (0, 0, 0, 0) 8)) 0 (P 1 (P 4 n 0) 0) (-1))) gk_L_100 dL_law_772 (c_X6_nextTime hP hg hW) rfl rfl (Nat.le_of_ble_eq_true rfl) (Nat.le_of_ble_eq_true rfl) hR1 ?_
      refine G_if_lt (pc := 775) 793 dL_law_775 (by decide) ⟨by omega, by omega⟩ (fun c775 => ?_) (fun c775 => ?_)
      · exact t793
      · refine G_aload_n (pc := 778) 3 7 dL_law_778 rfl rfl ?_
        refine G_iload (pc := 779) 3 dL_law_779 rfl ?_
        refine G_q (pc := 781) (x := (lp (zng P V n (V (0, 0, 0, 0) 6) (V (0, 0, 0, 0) 8)) 0 (P 1 (P 4 n 0) 0) (-1))) gk_L_100 dL_law_781 (c_X6_nextTime hP hg hW) rfl rfl (Nat.le_of_ble_eq_true rfl) (Nat.le_of_ble_eq_true rfl) hR1 ?_
        refine G_aload_n (pc := 784) 3 7 dL_law_784 rfl rfl ?_
        refine G_q (pc := 785) (x := (V (0, 0, 0, 0) 6)) gk_L_103 dL_law_785 (c_X6_clock hP hW) rfl rfl (Nat.le_of_ble_eq_true rfl) (Nat.le_of_ble_eq_true rfl) hR1 ?_
        refine G_icmp_ge (pc := 788) 793 dL_law_788 (by decide) ⟨by omega, by omega⟩ ⟨by omega, by omega⟩ (fun c788 => ?_) (fun c788 => absurd c788 (by omega))
        exact t793
