/-! ===== the law's cases without a wrapper ===== -/
set_option maxHeartbeats 1000000 in
set_option maxRecDepth 100000 in
theorem w_8 {Γ : zCx} {b L : Nat} {xs : Nat → Int32} {P : zP} {T : zS} {i j : Int} {w : Int64} {wd : UInt64} {ad : zK → Nat} {nc ns : Nat} (hc : nc + 700 ≤ 601024 ∧ ns + 7300 ≤ 7293034) (hJ : xJ P T T) (hj : T (0, 0, 0, 0) 4 ≤ j) (hj2 : j ≤ 512) (kk : zKn Γ b i j nc ns ad) : G Γ zRL cL_law 9 RL ad (mm (z_d Γ) ad P T (zXl (z_d Γ) w wd)) nc ns 784 (zLv ad b i) [] := by
  show G Γ zRL cL_law 9 RL ad (mm (z_d Γ) ad P T (zXl (z_d Γ) w wd)) nc ns 784 [(5, .int (zI i)), (0, .ref b), (1, .ref (ad (0, 0, 0, 0))), (2, .ref (ad (40, 0, 0, 0))), (3, .ref (ad (82, 0, 0, 0))), (4, .ref (ad (83, 0, 0, 0)))] []
  have hP := hJ.2.2.2.2.2.2
  have hW := hJ.2.2.2.2.1
  have hV := hJ.2.2.2.2.2.1
  have hN := hP.n
  refine G_aload_n (pc := 784) 1 2 dL_law_784 rfl rfl ?_
  refine G_callVd (pc := 785) gk_L_157 dL_law_785 mg_0 rfl (c_X6_clock hP hW) rfl rfl (Nat.le_of_ble_eq_true rfl) ⟨⟨Nat.le_of_ble_eq_true rfl, Nat.le_of_ble_eq_true rfl⟩, by show nc + 0 ≤ 601024; omega, by show ns + 0 ≤ 7293034; omega⟩ ?_
  refine G_aload_n (pc := 788) 2 3 dL_law_788 rfl rfl ?_
  refine G_callVd (pc := 789) gk_L_160 dL_law_789 mg_40 rfl (c_X7_clock (Q := P) hV) rfl rfl (Nat.le_of_ble_eq_true rfl) ⟨⟨Nat.le_of_ble_eq_true rfl, Nat.le_of_ble_eq_true rfl⟩, by show nc + 0 ≤ 601024; omega, by show ns + 0 ≤ 7293034; omega⟩ ?_
  have he : T (0, 0, 0, 0) 6 = T (40, 0, 0, 0) 1 := hJ.1.1.A.1.symm
  refine G_icmp_eq (pc := 792) 2562 dL_law_792 (by decide) (by first | exact hW.R _ _ | exact ⟨by omega, by omega⟩) (by rw [← he]; first | exact hW.R _ _ | exact ⟨by omega, by omega⟩) (fun _ => ?_) (fun q => absurd he q)
  rw [mm_nz (zfr.rf.st rfl)]
  exact G_more (by omega) (by omega) (kk P _ w wd ad (xJ_nz (xJ_th hJ zR_0)) (by rw [nz_lt rfl]; omega) zKp.rf)
set_option maxHeartbeats 1000000 in
set_option maxRecDepth 100000 in
theorem w_9 {Γ : zCx} {b L : Nat} {xs : Nat → Int32} {P : zP} {T : zS} {i j : Int} {w : Int64} {wd : UInt64} {ad : zK → Nat} {nc ns : Nat} (hc : nc + 700 ≤ 601024 ∧ ns + 7300 ≤ 7293034) (hJ : xJ P T T) (hj : T (0, 0, 0, 0) 4 ≤ j) (hj2 : j ≤ 512) (kk : zKn Γ b i j nc ns ad) : G Γ zRL cL_law 9 RL ad (mm (z_d Γ) ad P T (zXl (z_d Γ) w wd)) nc ns 797 (zLv ad b i) [] := by
  show G Γ zRL cL_law 9 RL ad (mm (z_d Γ) ad P T (zXl (z_d Γ) w wd)) nc ns 797 [(5, .int (zI i)), (0, .ref b), (1, .ref (ad (0, 0, 0, 0))), (2, .ref (ad (40, 0, 0, 0))), (3, .ref (ad (82, 0, 0, 0))), (4, .ref (ad (83, 0, 0, 0)))] []
  have hP := hJ.2.2.2.2.2.2
  have hW := hJ.2.2.2.2.1
  have hV := hJ.2.2.2.2.2.1
  have hN := hP.n
  refine G_aload_n (pc := 797) 1 2 dL_law_797 rfl rfl ?_
  refine G_callVd (pc := 798) gk_L_161 dL_law_798 mg_0 rfl (c_X6_topics hP hW) rfl rfl (Nat.le_of_ble_eq_true rfl) ⟨⟨Nat.le_of_ble_eq_true rfl, Nat.le_of_ble_eq_true rfl⟩, by show nc + 0 ≤ 601024; omega, by show ns + 0 ≤ 7293034; omega⟩ ?_
  refine G_aload_n (pc := 801) 2 3 dL_law_801 rfl rfl ?_
  refine G_callVd (pc := 802) gk_L_164 dL_law_802 mg_40 rfl (c_X7_topics (Q := P) hV) rfl rfl (Nat.le_of_ble_eq_true rfl) ⟨⟨Nat.le_of_ble_eq_true rfl, Nat.le_of_ble_eq_true rfl⟩, by show nc + 0 ≤ 601024; omega, by show ns + 0 ≤ 7293034; omega⟩ ?_
  have he : P 0 0 0 = T (40, 0, 0, 0) 4 := hV.2.1.1.symm
  refine G_icmp_eq (pc := 805) 2562 dL_law_805 (by decide) (by first | exact hW.R _ _ | exact ⟨by omega, by omega⟩) (by rw [← he]; first | exact hW.R _ _ | exact ⟨by omega, by omega⟩) (fun _ => ?_) (fun q => absurd he q)
  rw [mm_nz (zfr.rf.st rfl)]
  exact G_more (by omega) (by omega) (kk P _ w wd ad (xJ_nz (xJ_th hJ zR_0)) (by rw [nz_lt rfl]; omega) zKp.rf)
set_option maxHeartbeats 1000000 in
set_option maxRecDepth 100000 in
theorem w_21 {Γ : zCx} {b L : Nat} {xs : Nat → Int32} {P : zP} {T : zS} {i j : Int} {w : Int64} {wd : UInt64} {ad : zK → Nat} {nc ns : Nat} (hc : nc + 700 ≤ 601024 ∧ ns + 7300 ≤ 7293034) (hJ : xJ P T T) (hj : T (0, 0, 0, 0) 4 ≤ j) (hj2 : j ≤ 512) (kk : zKn Γ b i j nc ns ad) : G Γ zRL cL_law 9 RL ad (mm (z_d Γ) ad P T (zXl (z_d Γ) w wd)) nc ns 1629 (zLv ad b i) [] := by
  show G Γ zRL cL_law 9 RL ad (mm (z_d Γ) ad P T (zXl (z_d Γ) w wd)) nc ns 1629 [(5, .int (zI i)), (0, .ref b), (1, .ref (ad (0, 0, 0, 0))), (2, .ref (ad (40, 0, 0, 0))), (3, .ref (ad (82, 0, 0, 0))), (4, .ref (ad (83, 0, 0, 0)))] []
  have hP := hJ.2.2.2.2.2.2
  have hW := hJ.2.2.2.2.1
  have hV := hJ.2.2.2.2.2.1
  have hN := hP.n
  refine G_aload_n (pc := 1629) 1 2 dL_law_1629 rfl rfl ?_
  refine G_callVd (pc := 1630) gk_L_201 dL_law_1630 mg_0 rfl (c_X6_groups hP hW) rfl rfl (Nat.le_of_ble_eq_true rfl) ⟨⟨Nat.le_of_ble_eq_true rfl, Nat.le_of_ble_eq_true rfl⟩, by show nc + 0 ≤ 601024; omega, by show ns + 0 ≤ 7293034; omega⟩ ?_
  refine G_aload_n (pc := 1633) 2 3 dL_law_1633 rfl rfl ?_
  refine G_callVd (pc := 1634) gk_L_204 dL_law_1634 mg_40 rfl (c_X7_groups (Q := P) hV) rfl rfl (Nat.le_of_ble_eq_true rfl) ⟨⟨Nat.le_of_ble_eq_true rfl, Nat.le_of_ble_eq_true rfl⟩, by show nc + 0 ≤ 601024; omega, by show ns + 0 ≤ 7293034; omega⟩ ?_
  have he : P 3 0 0 = T (40, 0, 0, 0) 23 := hV.2.1.2.1.symm
  refine G_icmp_eq (pc := 1637) 2562 dL_law_1637 (by decide) (by first | exact hW.R _ _ | exact ⟨by omega, by omega⟩) (by rw [← he]; first | exact hW.R _ _ | exact ⟨by omega, by omega⟩) (fun _ => ?_) (fun q => absurd he q)
  rw [mm_nz (zfr.rf.st rfl)]
  exact G_more (by omega) (by omega) (kk P _ w wd ad (xJ_nz (xJ_th hJ zR_0)) (by rw [nz_lt rfl]; omega) zKp.rf)
set_option maxHeartbeats 1000000 in
set_option maxRecDepth 100000 in
theorem w_30 {Γ : zCx} {b L : Nat} {xs : Nat → Int32} {P : zP} {T : zS} {i j : Int} {w : Int64} {wd : UInt64} {ad : zK → Nat} {nc ns : Nat} (hc : nc + 700 ≤ 601024 ∧ ns + 7300 ≤ 7293034) (hJ : xJ P T T) (hj : T (0, 0, 0, 0) 4 ≤ j) (hj2 : j ≤ 512) (kk : zKn Γ b i j nc ns ad) : G Γ zRL cL_law 9 RL ad (mm (z_d Γ) ad P T (zXl (z_d Γ) w wd)) nc ns 2207 (zLv ad b i) [] := by
  show G Γ zRL cL_law 9 RL ad (mm (z_d Γ) ad P T (zXl (z_d Γ) w wd)) nc ns 2207 [(5, .int (zI i)), (0, .ref b), (1, .ref (ad (0, 0, 0, 0))), (2, .ref (ad (40, 0, 0, 0))), (3, .ref (ad (82, 0, 0, 0))), (4, .ref (ad (83, 0, 0, 0)))] []
  have hP := hJ.2.2.2.2.2.2
  have hW := hJ.2.2.2.2.1
  have hV := hJ.2.2.2.2.2.1
  have hN := hP.n
  refine G_aload_n (pc := 2207) 1 2 dL_law_2207 rfl rfl ?_
  refine G_callVd (pc := 2208) gk_L_230 dL_law_2208 mg_0 rfl (c_X6_ledger hP hW) rfl rfl (Nat.le_of_ble_eq_true rfl) ⟨⟨Nat.le_of_ble_eq_true rfl, Nat.le_of_ble_eq_true rfl⟩, by show nc + 0 ≤ 601024; omega, by show ns + 0 ≤ 7293034; omega⟩ ?_
  refine G_aload_n (pc := 2211) 2 3 dL_law_2211 rfl rfl ?_
  refine G_callVd (pc := 2212) gk_L_233 dL_law_2212 mg_40 rfl (c_X7_ledger (Q := P) hV) rfl rfl (Nat.le_of_ble_eq_true rfl) ⟨⟨Nat.le_of_ble_eq_true rfl, Nat.le_of_ble_eq_true rfl⟩, by show nc + 0 ≤ 601024; omega, by show ns + 0 ≤ 7293034; omega⟩ ?_
  have he : T (1, 0, 0, 0) 1 = T (40, 0, 0, 0) 32 := hJ.2.1.1.symm
  refine G_icmp_eq (pc := 2215) 2562 dL_law_2215 (by decide) (by first | exact hW.R _ _ | exact ⟨by omega, by omega⟩) (by rw [← he]; first | exact hW.R _ _ | exact ⟨by omega, by omega⟩) (fun _ => ?_) (fun q => absurd he q)
  rw [mm_nz (zfr.rf.st rfl)]
  exact G_more (by omega) (by omega) (kk P _ w wd ad (xJ_nz (xJ_th hJ zR_0)) (by rw [nz_lt rfl]; omega) zKp.rf)
set_option maxHeartbeats 1000000 in
set_option maxRecDepth 100000 in
theorem w_36 {Γ : zCx} {b L : Nat} {xs : Nat → Int32} {P : zP} {T : zS} {i j : Int} {w : Int64} {wd : UInt64} {ad : zK → Nat} {nc ns : Nat} (hc : nc + 700 ≤ 601024 ∧ ns + 7300 ≤ 7293034) (hJ : xJ P T T) (hj : T (0, 0, 0, 0) 4 ≤ j) (hj2 : j ≤ 512) (kk : zKn Γ b i j nc ns ad) : G Γ zRL cL_law 9 RL ad (mm (z_d Γ) ad P T (zXl (z_d Γ) w wd)) nc ns 2548 (zLv ad b i) [] := by
  show G Γ zRL cL_law 9 RL ad (mm (z_d Γ) ad P T (zXl (z_d Γ) w wd)) nc ns 2548 [(5, .int (zI i)), (0, .ref b), (1, .ref (ad (0, 0, 0, 0))), (2, .ref (ad (40, 0, 0, 0))), (3, .ref (ad (82, 0, 0, 0))), (4, .ref (ad (83, 0, 0, 0)))] []
  have hP := hJ.2.2.2.2.2.2
  have hW := hJ.2.2.2.2.1
  have hV := hJ.2.2.2.2.2.1
  have hN := hP.n
  refine G_aload_n (pc := 2548) 1 2 dL_law_2548 rfl rfl ?_
  refine G_callVd (pc := 2549) gk_L_249 dL_law_2549 mg_0 rfl (c_X6_digest hP hW) rfl rfl (Nat.le_of_ble_eq_true rfl) ⟨⟨Nat.le_of_ble_eq_true rfl, Nat.le_of_ble_eq_true rfl⟩, by show nc + 0 ≤ 601024; omega, by show ns + 0 ≤ 7293034; omega⟩ ?_
  refine G_aload_n (pc := 2552) 2 3 dL_law_2552 rfl rfl ?_
  refine G_callVdA (pc := 2553) gk_L_253 dL_law_2553 mg_40 rfl (c_X7_digest (Q := P) hV zXl_90 rfl) rfl rfl (Nat.le_of_ble_eq_true rfl) ⟨⟨Nat.le_of_ble_eq_true rfl, Nat.le_of_ble_eq_true rfl⟩, by show nc + 16 ≤ 601024; omega, by show ns + 160 ≤ 7293034; omega⟩ ?_
  rw [a_digest (xJ_th (v := 0) hJ zR_0)]
  refine G_lcmpE (pc := 2556) dL_law_2556 ?_
  refine G_if_eq (pc := 2557) 2562 dL_law_2557 (by decide) zR_0 (fun _ => ?_) (fun q => absurd rfl q)
  rw [mm_nz (zfr.rf.st rfl)]
  exact G_more (by omega) (by omega) (kk P _ w wd ad (xJ_nz (xJ_th hJ zR_0)) (by rw [nz_lt rfl]; omega) zKp.rf)
