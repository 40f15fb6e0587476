/-! ===== the law: what a reader takes ===== -/
set_option maxHeartbeats 4000000 in
set_option maxRecDepth 100000 in
theorem l_t {Γ : zCx} {ad : zK → Nat} {P : zP} {V : zS} {nc ns b : Nat} {tm rows stp : Int} {w : Int64} {n r : Int} (hJ : zJ P V) (hR : nc ≤ 600086 ∧ ns ≤ 7301442) (hg : inG P n) (hr : 0 ≤ r ∧ r < 6) (kk1 : G Γ zRW cL_law 21 RL ad (mm (z_d Γ) ad P V (pm (z_d Γ) ad P V z00)) nc ns 1087 [(6, .long w), (5, .int (zI stp)), (4, .int (zI rows)), (3, .ref (ad (0, 0, 0, 0))), (2, .ref (ad (200, 0, 0, 0))), (1, .int (zI tm)), (0, .ref b)] []) (kk2 : ∀ M : zMem, G Γ zRW cL_law 21 RL ad M nc ns 1093 [(1, .int (zI tm)), (0, .ref b)] []) : G Γ zRW cL_law 21 RL ad (mm (z_d Γ) ad P V (pm (z_d Γ) ad P V z00)) nc ns 979 [(12, .int (zI r)), (11, .int (zI n)), (6, .long w), (5, .int (zI stp)), (4, .int (zI rows)), (3, .ref (ad (0, 0, 0, 0))), (2, .ref (ad (200, 0, 0, 0))), (1, .int (zI tm)), (0, .ref b)] [] := by
  have hP := hJ.wp
  have hW := hJ.wv.W
  have ht : inT P (P 4 n 0) := hP.g hg
  have hN := hP.n
  have hT := hP.t ht
  have hg1 := hg.1
  have hg2 := hg.2
  refine G_aload_n (pc := 979) 3 5 dL_law_979 rfl rfl ?_
  refine G_iload (pc := 980) 1 dL_law_980 rfl ?_
  refine G_iload (pc := 982) 0 dL_law_982 rfl ?_
  refine G_q (pc := 984) (x := (znp P V n r (V (0, 0, 0, 0) 6))) gk_L_84 dL_law_984 (c_X6_wouldTake hP hg hW hr) rfl rfl (Nat.le_of_ble_eq_true rfl) (Nat.le_of_ble_eq_true rfl) hR ?_
  have hxr := znp_R hP hW hg (r := r) (x := V (0, 0, 0, 0) 6)
  refine G_istore_e (pc := 987) (fun x => [(13, .int (zI x)), (12, .int (zI r)), (11, .int (zI n)), (6, .long w), (5, .int (zI stp)), (4, .int (zI rows)), (3, .ref (ad (0, 0, 0, 0))), (2, .ref (ad (200, 0, 0, 0))), (1, .int (zI tm)), (0, .ref b)]) dL_law_987 (by decide) (fun _ => rfl) (fun x hx => ?_)
  rw [← hx] at hxr
  refine G_iload (pc := 989) 0 dL_law_989 rfl ?_
  refine G_if_lt (pc := 991) 1079 dL_law_991 (by decide) ⟨by omega, by omega⟩ (fun c991 => ?_) (fun c991 => ?_)
  · refine G_iload (pc := 1079) 0 dL_law_1079 rfl ?_
    refine G_if_lt (pc := 1081) 1087 dL_law_1081 (by decide) ⟨by omega, by omega⟩ (fun c1081 => ?_) (fun c1081 => absurd c1081 (by omega))
    refine G_perm (lv' := [(6, .long w), (5, .int (zI stp)), (4, .int (zI rows)), (3, .ref (ad (0, 0, 0, 0))), (2, .ref (ad (200, 0, 0, 0))), (1, .int (zI tm)), (0, .ref b)]) [3, 4, 5, 6, 7, 8, 9] rfl ?_
    exact kk1
  · obtain ⟨hp, ho, e, q4, q5, q6, q7⟩ := zC_would hJ hg hx (by omega)
    have hp1 := hp.1
    have hp2 := hp.2
    have hM := hP.m ht hp
    have h17 := (zC_reader hJ hg hp).2.2 (by omega)
    rw [q4] at h17
    refine G_aload_n (pc := 994) 3 6 dL_law_994 rfl rfl ?_
    refine G_iload (pc := 995) 2 dL_law_995 rfl ?_
    refine G_iload (pc := 997) 1 dL_law_997 rfl ?_
    refine G_callVd (pc := 999) gk_L_112 dL_law_999 mg_0 rfl (c_X6_take_o hP hg hp hW hr ho (by omega) e q7) rfl rfl (Nat.le_of_ble_eq_true rfl) ⟨⟨Nat.le_of_ble_eq_true rfl, Nat.le_of_ble_eq_true rfl⟩, hR.1, hR.2⟩ ?_
    have hJ2 := zJ_take hJ hg hp ho e
    have h1 := zq_take (V := V) (g := n) (p := x / 100) (o := x % 100) (a := 0) (b := n) (c := x / 100) (d := x % 100) (e := V (0, 0, 0, 0) 6) (x := V (0, 0, 0, 0) 6)
    generalize zlw (zgv V n (x / 100) (x % 100) (V (0, 0, 0, 0) 6)) 0 n (x / 100) (x % 100) (V (0, 0, 0, 0) 6) = V2 at hJ2 h1 ⊢
    refine G_iload (pc := 1002) 0 dL_law_1002 rfl ?_
    refine G_icmp_ne (pc := 1004) 1077 dL_law_1004 (by decide) ⟨by omega, by omega⟩ ⟨by omega, by omega⟩ (fun c1004 => absurd c1004 (by omega)) (fun c1004 => ?_)
    refine G_aload_n (pc := 1007) 3 6 dL_law_1007 rfl rfl ?_
    refine G_iload (pc := 1008) 2 dL_law_1008 rfl ?_
    refine G_iload (pc := 1010) 0 dL_law_1010 rfl ?_
    refine G_bipush (pc := 1012) dL_law_1012 (by decide) ?_
    refine G_idiv (pc := 1014) dL_law_1014 ⟨by omega, by omega, by omega⟩ ⟨by omega, by omega, by omega⟩ ?_
    refine G_iload (pc := 1015) 0 dL_law_1015 rfl ?_
    refine G_bipush (pc := 1017) dL_law_1017 (by decide) ?_
    refine G_irem (pc := 1019) dL_law_1019 ⟨by omega, by omega, by omega⟩ ⟨by omega, by omega, by omega⟩ ?_
    refine G_q (pc := 1020) (x := (V2 (19, n, (x / 100), 0) (x % 100))) gk_L_67 dL_law_1020 (c_X6_state hP hg hp ho hJ2.wv.W) rfl rfl (Nat.le_of_ble_eq_true rfl) (Nat.le_of_ble_eq_true rfl) hR ?_
    refine G_iconst (pc := 1023) dL_law_1023 ?_
    refine G_icmp_ne (pc := 1024) 1077 dL_law_1024 (by decide) ⟨by omega, by omega⟩ ⟨by omega, by omega⟩ (fun c1024 => absurd c1024 (by omega)) (fun c1024 => ?_)
    refine G_aload_n (pc := 1027) 3 6 dL_law_1027 rfl rfl ?_
    refine G_iload (pc := 1028) 2 dL_law_1028 rfl ?_
    refine G_iload (pc := 1030) 0 dL_law_1030 rfl ?_
    refine G_bipush (pc := 1032) dL_law_1032 (by decide) ?_
    refine G_idiv (pc := 1034) dL_law_1034 ⟨by omega, by omega, by omega⟩ ⟨by omega, by omega, by omega⟩ ?_
    refine G_iload (pc := 1035) 0 dL_law_1035 rfl ?_
    refine G_bipush (pc := 1037) dL_law_1037 (by decide) ?_
    refine G_irem (pc := 1039) dL_law_1039 ⟨by omega, by omega, by omega⟩ ⟨by omega, by omega, by omega⟩ ?_
    refine G_callVd (pc := 1040) gk_L_115 dL_law_1040 mg_0 rfl (c_X6_ack hP hg hp hJ2.wv.W ⟨ho, h1⟩) rfl rfl (Nat.le_of_ble_eq_true rfl) ⟨⟨Nat.le_of_ble_eq_true rfl, Nat.le_of_ble_eq_true rfl⟩, hR.1, hR.2⟩ ?_
    have hJ3 := (zJ_ack hJ2 hg hp ho h1).2.1
    have h3 := zq_ack hJ2 hg hp (o := x % 100) (a := 1) (b := n) (c := x / 100) (d := x % 100) (e := V2 (0, 0, 0, 0) 6)
    generalize zlw (zku P (zst V2 (19, n, x / 100, 0) (x % 100) 3) n (x / 100)) 1 n (x / 100) (x % 100) (V2 (0, 0, 0, 0) 6) = V3 at hJ3 h3 ⊢
    have hmk := (zC_mark hJ3 hg hp).1
    refine G_aload_n (pc := 1043) 3 6 dL_law_1043 rfl rfl ?_
    refine G_iload (pc := 1044) 2 dL_law_1044 rfl ?_
    refine G_iload (pc := 1046) 0 dL_law_1046 rfl ?_
    refine G_bipush (pc := 1048) dL_law_1048 (by decide) ?_
    refine G_idiv (pc := 1050) dL_law_1050 ⟨by omega, by omega, by omega⟩ ⟨by omega, by omega, by omega⟩ ?_
    refine G_q (pc := 1051) (x := (V3 (18, n, (x / 100), 0) 6)) gk_L_61 dL_law_1051 (c_X6_cursor hP hg hp hJ3.wv.W) rfl rfl (Nat.le_of_ble_eq_true rfl) (Nat.le_of_ble_eq_true rfl) hR ?_
    refine G_icmp_gt (pc := 1054) 1077 dL_law_1054 (by decide) ⟨by omega, by omega⟩ ⟨by omega, by omega⟩ (fun c1054 => absurd c1054 (by omega)) (fun c1054 => ?_)
    refine G_aload_n (pc := 1057) 3 6 dL_law_1057 rfl rfl ?_
    refine G_iload (pc := 1058) 2 dL_law_1058 rfl ?_
    refine G_iload (pc := 1060) 0 dL_law_1060 rfl ?_
    refine G_bipush (pc := 1062) dL_law_1062 (by decide) ?_
    refine G_idiv (pc := 1064) dL_law_1064 ⟨by omega, by omega, by omega⟩ ⟨by omega, by omega, by omega⟩ ?_
    refine G_iload (pc := 1065) 0 dL_law_1065 rfl ?_
    refine G_bipush (pc := 1067) dL_law_1067 (by decide) ?_
    refine G_irem (pc := 1069) dL_law_1069 ⟨by omega, by omega, by omega⟩ ⟨by omega, by omega, by omega⟩ ?_
    refine G_q (pc := 1070) (x := (V3 (19, n, (x / 100), 0) (x % 100))) gk_L_67 dL_law_1070 (c_X6_state hP hg hp ho hJ3.wv.W) rfl rfl (Nat.le_of_ble_eq_true rfl) (Nat.le_of_ble_eq_true rfl) hR ?_
    refine G_iconst (pc := 1073) dL_law_1073 ?_
    refine G_icmp_eq (pc := 1074) 1079 dL_law_1074 (by decide) ⟨by omega, by omega⟩ ⟨by omega, by omega⟩ (fun c1074 => ?_) (fun c1074 => absurd c1074 (by omega))
    refine G_iload (pc := 1079) 0 dL_law_1079 rfl ?_
    refine G_if_lt (pc := 1081) 1087 dL_law_1081 (by decide) ⟨by omega, by omega⟩ (fun c1081 => absurd c1081 (by omega)) (fun c1081 => ?_)
    refine G_goto (pc := 1084) 1093 dL_law_1084 (by decide) ?_
    refine G_perm (lv' := [(1, .int (zI tm)), (0, .ref b)]) [8, 9] rfl ?_
    exact kk2 _
set_option maxHeartbeats 4000000 in
set_option maxRecDepth 100000 in
theorem l_d {Γ : zCx} {ad : zK → Nat} {P : zP} {V : zS} {nc ns b : Nat} {tm rows stp : Int} {w : Int64} (hJ : zJ P V) (hR : nc ≤ 600086 ∧ ns ≤ 7301442) (hL : (z_d Γ).2.2.2.2.1 ≤ 3072) (h3 : 1 ≤ P 3 0 0) (hD : V (200, 0, 0, 0) 2 ≤ 980000) (kk1 : ∀ D, zDr P V D 2 → G Γ zRW cL_law 21 RL ad (pm (z_d Γ) ad P D (mm (z_d Γ) ad P D z00)) nc ns 1087 [(6, .long w), (5, .int (zI stp)), (4, .int (zI rows)), (3, .ref (ad (0, 0, 0, 0))), (2, .ref (ad (200, 0, 0, 0))), (1, .int (zI tm)), (0, .ref b)] []) (kk2 : ∀ M : zMem, G Γ zRW cL_law 21 RL ad M nc ns 1093 [(1, .int (zI tm)), (0, .ref b)] []) : G Γ zRW cL_law 21 RL ad (mm (z_d Γ) ad P V (pm (z_d Γ) ad P V z00)) nc ns 962 [(6, .long w), (5, .int (zI stp)), (4, .int (zI rows)), (3, .ref (ad (0, 0, 0, 0))), (2, .ref (ad (200, 0, 0, 0))), (1, .int (zI tm)), (0, .ref b)] [] := by
  have hN := hJ.wp.n
  rw [← pm_mm]
  refine G_aload_n (pc := 962) 2 4 dL_law_962 rfl rfl ?_
  refine G_aload_n (pc := 963) 2 4 dL_law_963 rfl rfl ?_
  refine G_getfV (pc := 964) (w := P 3 0 0) fl_L_35 dL_law_964 pg_200 rfl (by rw [hJ.wv.gn]) ?_
  refine G_drwL (pc := 967) dL_law_967 (zDr_0 hJ) (by omega) hL ⟨by omega, by omega⟩ (Nat.le_of_ble_eq_true rfl) ⟨⟨Nat.le_of_ble_eq_true rfl, Nat.le_of_ble_eq_true rfl⟩, hR.1, hR.2⟩ (fun n D hr1 h1 => ?_)
  refine G_istore (pc := 970) [(11, .int (zI n)), (6, .long w), (5, .int (zI stp)), (4, .int (zI rows)), (3, .ref (ad (0, 0, 0, 0))), (2, .ref (ad (200, 0, 0, 0))), (1, .int (zI tm)), (0, .ref b)] dL_law_970 (by decide) rfl ?_
  refine G_aload_n (pc := 972) 2 5 dL_law_972 rfl rfl ?_
  refine G_iconst (pc := 973) dL_law_973 ?_
  refine G_drwL (pc := 974) dL_law_974 h1 (by omega) hL ⟨by omega, by omega⟩ (Nat.le_of_ble_eq_true rfl) ⟨⟨Nat.le_of_ble_eq_true rfl, Nat.le_of_ble_eq_true rfl⟩, hR.1, hR.2⟩ (fun r D2 hr2 h2 => ?_)
  refine G_istore (pc := 977) [(12, .int (zI r)), (11, .int (zI n)), (6, .long w), (5, .int (zI stp)), (4, .int (zI rows)), (3, .ref (ad (0, 0, 0, 0))), (2, .ref (ad (200, 0, 0, 0))), (1, .int (zI tm)), (0, .ref b)] dL_law_977 (by decide) rfl ?_
  have k1 := kk1 D2 h2
  rw [pm_mm] at k1
  rw [h2.X, pm_mm]
  exact l_t h2.1 hR hr1 ⟨hr2.1, by omega⟩ k1 kk2
set_option maxHeartbeats 4000000 in
set_option maxRecDepth 100000 in
theorem l_chk {Γ : zCx} {ad : zK → Nat} {P : zP} {V : zS} {nc0 ns0 b : Nat} {tm rows stp : Int}  (hJ : zJ P V) (hrow : 0 ≤ rows ∧ rows ≤ V (1, 0, 0, 0) 1) (hR0 : nc0 + 4 ≤ 600086 ∧ ns0 + 24 ≤ 7301442) (kk : ∀ ad : zK → Nat, G Γ zRW cL_law 21 RL ad (mm (z_d Γ) ad P V (pm (z_d Γ) ad P V z00)) (nc0 + 4) (ns0 + 24) 962 [(6, .long (zL (zdg P V))), (5, .int (zI stp)), (4, .int (zI (V (1, 0, 0, 0) 1))), (3, .ref (ad (0, 0, 0, 0))), (2, .ref (ad (200, 0, 0, 0))), (1, .int (zI tm)), (0, .ref b)] []) : G Γ zRW cL_law 21 RL ad (mm (z_d Γ) ad P V (pm (z_d Γ) ad P V z00)) nc0 ns0 74 [(5, .int (zI stp)), (4, .int (zI rows)), (3, .ref (ad (0, 0, 0, 0))), (2, .ref (ad (200, 0, 0, 0))), (1, .int (zI tm)), (0, .ref b)] [] := by
  have hP := hJ.wp
  have hW := hJ.wv.W
  have hN := hP.n
  have hl := hW.l
  have hR : nc0 ≤ 600086 ∧ ns0 ≤ 7301442 := ⟨by omega, by omega⟩
  refine G_aload_n (pc := 74) 3 2 dL_law_74 rfl rfl ?_
  refine G_callVd (pc := 75) gk_L_25 dL_law_75 mg_0 rfl (c_X6_digest hP hW) rfl rfl (Nat.le_of_ble_eq_true rfl) ⟨⟨Nat.le_of_ble_eq_true rfl, Nat.le_of_ble_eq_true rfl⟩, hR.1, hR.2⟩ ?_
  refine G_lstore (pc := 78) [(6, .long (zL (zdg P V))), (5, .int (zI stp)), (4, .int (zI rows)), (3, .ref (ad (0, 0, 0, 0))), (2, .ref (ad (200, 0, 0, 0))), (1, .int (zI tm)), (0, .ref b)] dL_law_78 (by decide) rfl ?_
  refine G_aload_n (pc := 80) 3 3 dL_law_80 rfl rfl ?_
  refine G_q (pc := 81) (x := (V (1, 0, 0, 0) 1)) gk_L_31 dL_law_81 (c_X6_ledger hP hW) rfl rfl (Nat.le_of_ble_eq_true rfl) (Nat.le_of_ble_eq_true rfl) hR ?_
  refine G_iload (pc := 84) 2 dL_law_84 rfl ?_
  refine G_icmp_ge (pc := 86) 91 dL_law_86 (by decide) ⟨by omega, by omega⟩ ⟨by omega, by omega⟩ (fun c86 => ?_) (fun c86 => absurd c86 (by omega))
  refine G_aload_n (pc := 91) 3 3 dL_law_91 rfl rfl ?_
  refine G_q (pc := 92) (x := (V (1, 0, 0, 0) 1)) gk_L_31 dL_law_92 (c_X6_ledger hP hW) rfl rfl (Nat.le_of_ble_eq_true rfl) (Nat.le_of_ble_eq_true rfl) hR ?_
  refine G_istore (pc := 95) [(4, .int (zI (V (1, 0, 0, 0) 1))), (6, .long (zL (zdg P V))), (5, .int (zI stp)), (3, .ref (ad (0, 0, 0, 0))), (2, .ref (ad (200, 0, 0, 0))), (1, .int (zI tm)), (0, .ref b)] dL_law_95 (by decide) rfl ?_
  refine G_iconst (pc := 97) dL_law_97 ?_
  refine G_istore (pc := 98) [(8, .int (zI 0)), (4, .int (zI (V (1, 0, 0, 0) 1))), (6, .long (zL (zdg P V))), (5, .int (zI stp)), (3, .ref (ad (0, 0, 0, 0))), (2, .ref (ad (200, 0, 0, 0))), (1, .int (zI tm)), (0, .ref b)] dL_law_98 (by decide) rfl ?_
  refine G_perm (lv' := [(8, .int (zI 0)), (6, .long (zL (zdg P V))), (5, .int (zI stp)), (4, .int (zI (V (1, 0, 0, 0) 1))), (3, .ref (ad (0, 0, 0, 0))), (2, .ref (ad (200, 0, 0, 0))), (1, .int (zI tm)), (0, .ref b)]) [0, 2, 3, 1, 4, 5, 6, 7] rfl ?_
  refine l_g (nc0 := nc0) (ns0 := ns0) hJ hR0 (fun ad2 => ?_) (P 3 0 0 + 1).toNat 0 ad nc0 ns0 ⟨by omega, by omega⟩ ⟨by omega, by omega⟩ (by omega)
  refine G_iconst (pc := 799) dL_law_799 ?_
  refine G_istore (pc := 800) [(8, .int (zI 0)), (6, .long (zL (zdg P V))), (5, .int (zI stp)), (4, .int (zI (V (1, 0, 0, 0) 1))), (3, .ref (ad2 (0, 0, 0, 0))), (2, .ref (ad2 (200, 0, 0, 0))), (1, .int (zI tm)), (0, .ref b)] dL_law_800 (by decide) rfl ?_
  refine G_iconst (pc := 802) dL_law_802 ?_
  refine G_istore (pc := 803) [(9, .int (zI 0)), (8, .int (zI 0)), (6, .long (zL (zdg P V))), (5, .int (zI stp)), (4, .int (zI (V (1, 0, 0, 0) 1))), (3, .ref (ad2 (0, 0, 0, 0))), (2, .ref (ad2 (200, 0, 0, 0))), (1, .int (zI tm)), (0, .ref b)] dL_law_803 (by decide) rfl ?_
  refine G_iconst (pc := 805) dL_law_805 ?_
  refine G_istore (pc := 806) [(10, .int (zI 0)), (9, .int (zI 0)), (8, .int (zI 0)), (6, .long (zL (zdg P V))), (5, .int (zI stp)), (4, .int (zI (V (1, 0, 0, 0) 1))), (3, .ref (ad2 (0, 0, 0, 0))), (2, .ref (ad2 (200, 0, 0, 0))), (1, .int (zI tm)), (0, .ref b)] dL_law_806 (by decide) rfl ?_
  refine G_iconst (pc := 808) dL_law_808 ?_
  refine G_istore (pc := 809) [(11, .int (zI 0)), (10, .int (zI 0)), (9, .int (zI 0)), (8, .int (zI 0)), (6, .long (zL (zdg P V))), (5, .int (zI stp)), (4, .int (zI (V (1, 0, 0, 0) 1))), (3, .ref (ad2 (0, 0, 0, 0))), (2, .ref (ad2 (200, 0, 0, 0))), (1, .int (zI tm)), (0, .ref b)] dL_law_809 (by decide) rfl ?_
  refine G_perm (lv' := [(11, .int (zI 0)), (10, .int (zI 0)), (9, .int (zI 0)), (8, .int (zI 0)), (6, .long (zL (zdg P V))), (5, .int (zI stp)), (4, .int (zI (V (1, 0, 0, 0) 1))), (3, .ref (ad2 (0, 0, 0, 0))), (2, .ref (ad2 (200, 0, 0, 0))), (1, .int (zI tm)), (0, .ref b)]) [0, 1, 2, 3, 4, 5, 6, 7, 8, 9, 10] rfl ?_
  refine l_k (A := z00) (rows := rows) hJ hR0 ?_ (V (1, 0, 0, 0) 1 + 1).toNat 0 0 0 0 ⟨by omega, by omega⟩ (sm_end (by omega)).symm (sm_end (by omega)).symm (sm_end (by omega)).symm (by omega)
  have z32 := zC_ledA hJ
  have z20 := hJ.k0.2.2.2.2.1
  have b0 : 0 ≤ zcs V 0 ∧ zcs V 0 ≤ 1 * (V (1, 0, 0, 0) 1 - 0) := sm_bound (by omega) _ 0 _ hl.1 rfl (fun q _ _ => by unfold zcs1; split <;> omega)
  have b2 : 0 ≤ zcs V 2 ∧ zcs V 2 ≤ 1 * (V (1, 0, 0, 0) 1 - 0) := sm_bound (by omega) _ 0 _ hl.1 rfl (fun q _ _ => by unfold zcs1; split <;> omega)
  have b3 : 0 ≤ zcs V 3 ∧ zcs V 3 ≤ 1 * (V (1, 0, 0, 0) 1 - 0) := sm_bound (by omega) _ 0 _ hl.1 rfl (fun q _ _ => by unfold zcs1; split <;> omega)
  refine G_iload (pc := 936) 1 dL_law_936 rfl ?_
  refine G_iload (pc := 938) 2 dL_law_938 rfl ?_
  refine G_icmp_gt (pc := 940) 960 dL_law_940 (by decide) ⟨by omega, by omega⟩ ⟨by omega, by omega⟩ (fun c940 => absurd c940 (by omega)) (fun c940 => ?_)
  refine G_iload (pc := 943) 0 dL_law_943 rfl ?_
  refine G_iload (pc := 945) 1 dL_law_945 rfl ?_
  refine G_icmp_gt (pc := 947) 960 dL_law_947 (by decide) ⟨by omega, by omega⟩ ⟨by omega, by omega⟩ (fun c947 => absurd c947 (by omega)) (fun c947 => ?_)
  refine G_aload_n (pc := 950) 3 6 dL_law_950 rfl rfl ?_
  refine G_callVd (pc := 951) gk_L_25 dL_law_951 mg_0 rfl (c_X6_digest hP hW) rfl rfl (Nat.le_of_ble_eq_true rfl) ⟨⟨Nat.le_of_ble_eq_true rfl, Nat.le_of_ble_eq_true rfl⟩, hR0.1, hR0.2⟩ ?_
  refine G_lload (pc := 954) 3 dL_law_954 rfl ?_
  refine G_lcmpE (pc := 956) dL_law_956 ?_
  refine G_if_eq (pc := 957) 962 dL_law_957 (by decide) ⟨by omega, by omega⟩ (fun c957 => ?_) (fun c957 => absurd c957 (by omega))
  refine G_perm (lv' := [(6, .long (zL (zdg P V))), (5, .int (zI stp)), (4, .int (zI (V (1, 0, 0, 0) 1))), (3, .ref (ad2 (0, 0, 0, 0))), (2, .ref (ad2 (200, 0, 0, 0))), (1, .int (zI tm)), (0, .ref b)]) [3, 4, 5, 6, 7, 8, 9] rfl ?_
  exact kk ad2
