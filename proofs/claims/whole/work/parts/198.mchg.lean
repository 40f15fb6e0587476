set_option maxHeartbeats 4000000 in
set_option maxRecDepth 100000 in
theorem c_X7_take_n {l : Launch} {Δ : zDl} {ad : zK → Nat} {P : zP} {S : zS} {X : zMem} {Q : zP} {g r : Int} (hV : zWM Q S) (hX0 : X (90, 0, 0, 0) = none) (hg : 0 ≤ g ∧ g < Q 3 0 0) (hr : 0 ≤ r ∧ r < 6) (h61 : Q 61 0 0 = P 61 0 0) (h1 : ¬ S (68, 0, 0, 0) (g * 6 + r) = 0) (hz : mgt Q (zst S (40, 0, 0, 0) 0 0) g r = -1) : zMn l Δ yX7_take cX7_take 5 (some .int) 9 0 0 [.ref (ad (40, 0, 0, 0)), .int (zI g), .int (zI r)] ad (mm Δ ad P S X) (zD (some (.int (zI (-1)))) ad (mm Δ ad P (zst S (40, 0, 0, 0) 0 0) X)) := by
  refine zMn_of (by decide) (Nat.le_of_ble_eq_true rfl) (fun Γ hl hΔ hF => ?_)
  subst hl hΔ
  show G Γ _ _ _ RX7 _ _ _ _ _ [(0, .ref (ad (40, 0, 0, 0))), (1, .int (zI g)), (2, .int (zI r))] []
  have hq := hV.q
  have h23 := hV.g23
  refine G_aload_n (pc := 0) 0 0 dX7_take_0 rfl rfl ?_
  refine G_iconst (pc := 1) dX7_take_1 ?_
  refine G_putf (pc := 2) fl_X7_93 fp_X7_0 dX7_take_2 mg_40 (Nat.le_of_ble_eq_true rfl) rfl rfl (mp_40_0 _) ?_
  refine G_name (fun S1_2 hS1_2 => ?_)
  have hVS1_2 : zWM Q S1_2 := by rw [hS1_2]; exact hV.s40_0 (by first | assumption | exact ⟨by omega, by omega⟩)
  have h235 := hVS1_2.g23
  have h68 : S1_2 (68, 0, 0, 0) (g * 6 + r) = S (68, 0, 0, 0) (g * 6 + r) := by rw [hS1_2, zst_k _ _ _ _ (by simp)]
  rw [← hS1_2] at hz
  refine G_aload_n (pc := 5) 0 0 dX7_take_5 rfl rfl ?_
  refine G_iload_n (pc := 6) 1 1 dX7_take_6 rfl rfl ?_
  refine G_callVd (pc := 7) gk_X7_110 dX7_take_7 mg_40 rfl (c_X7_isGroup (Q := Q) (by first | assumption | omega | exact ⟨by omega, by omega⟩ | exact hS _ _ | exact hT _ _) (by first | assumption | omega | exact ⟨by omega, by omega⟩ | exact hS _ _ | exact hT _ _)) rfl rfl (Nat.le_of_ble_eq_true rfl) ⟨⟨Nat.le_of_ble_eq_true rfl, Nat.le_of_ble_eq_true rfl⟩, Nat.le_of_ble_eq_true rfl, Nat.le_of_ble_eq_true rfl⟩ ?_
  refine G_if_eq_b (pc := 10) 20 dX7_take_10 (by decide) (fun c10 => ?_) (fun c10 => ?_)
  · exfalso
    omega
  · refine G_iload_n (pc := 13) 2 2 dX7_take_13 rfl rfl ?_
    refine G_callSd (pc := 14) gk_X7_191 dX7_take_14 (c_X7_isReader (by first | assumption | omega | exact ⟨by omega, by omega⟩ | exact hS _ _ | exact hT _ _)) rfl rfl (Nat.le_of_ble_eq_true rfl) ⟨⟨Nat.le_of_ble_eq_true rfl, Nat.le_of_ble_eq_true rfl⟩, Nat.le_of_ble_eq_true rfl, Nat.le_of_ble_eq_true rfl⟩ ?_
    refine G_if_ne_b (pc := 17) 26 dX7_take_17 (by decide) (fun c17 => ?_) (fun c17 => ?_)
    · refine G_aload_n (pc := 26) 0 0 dX7_take_26 rfl rfl ?_
      refine G_getf (pc := 27) fl_X7_78 dX7_take_27 mg_40 rfl ?_
      refine G_iload_n (pc := 30) 1 1 dX7_take_30 rfl rfl ?_
      refine G_bipush (pc := 31) dX7_take_31 (by decide) ?_
      refine G_imul (pc := 33) dX7_take_33 ?_
      refine G_iload_n (pc := 34) 2 2 dX7_take_34 rfl rfl ?_
      refine G_iadd (pc := 35) dX7_take_35 ?_
      refine G_zald (pc := 36) dX7_take_36 mg_68 ⟨by omega, by omega, by omega, by omega⟩ ?_
      have hb36 := hVS1_2.b68 ((g * 6) + r)
      refine G_if_ne (pc := 37) 46 dX7_take_37 (by decide) (by first | exact hS _ _ | exact hT _ _ | exact ⟨by omega, by omega⟩ | assumption | exact zWM.r (by assumption) _ _ (by decide)) (fun c37 => ?_) (fun c37 => ?_)
      · refine G_aload_n (pc := 46) 0 0 dX7_take_46 rfl rfl ?_
        refine G_iload_n (pc := 47) 1 1 dX7_take_47 rfl rfl ?_
        refine G_iload_n (pc := 48) 2 2 dX7_take_48 rfl rfl ?_
        refine G_callVd (pc := 49) gk_X7_210 dX7_take_49 mg_40 rfl (c_X7_givesTo (Q := Q) (by first | assumption | omega | exact ⟨by omega, by omega⟩ | exact hS _ _ | exact hT _ _) (by first | assumption | omega | exact ⟨by omega, by omega⟩ | exact hS _ _ | exact hT _ _) (by first | assumption | omega | exact ⟨by omega, by omega⟩ | exact hS _ _ | exact hT _ _) (by first | assumption | omega | exact ⟨by omega, by omega⟩ | exact hS _ _ | exact hT _ _)) rfl rfl (Nat.le_of_ble_eq_true rfl) ⟨⟨Nat.le_of_ble_eq_true rfl, Nat.le_of_ble_eq_true rfl⟩, Nat.le_of_ble_eq_true rfl, Nat.le_of_ble_eq_true rfl⟩ ?_
        have hb49 := mgt_le (Q := Q) (g := g) (r := r) hVS1_2
        refine G_istore_n (pc := 52) 3 [(3, .int (zI (mgt Q S1_2 g r))), (0, .ref (ad (40, 0, 0, 0))), (1, .int (zI g)), (2, .int (zI r))] dX7_take_52 rfl (by decide) rfl ?_
        refine G_iload_n (pc := 53) 3 0 dX7_take_53 rfl rfl ?_
        refine G_iconst (pc := 54) dX7_take_54 ?_
        refine G_icmp_ne (pc := 55) 60 dX7_take_55 (by decide) (by first | exact hS _ _ | exact hT _ _ | exact ⟨by omega, by omega⟩ | assumption | exact zWM.r (by assumption) _ _ (by decide)) (by first | exact hS _ _ | exact hT _ _ | exact ⟨by omega, by omega⟩ | assumption | exact zWM.r (by assumption) _ _ (by decide)) (fun c55 => ?_) (fun c55 => ?_)
        · exfalso
          omega
        · refine G_iconst (pc := 58) dX7_take_58 ?_
          exact G_iret_m (pc := 59) hF dX7_take_59 ⟨Nat.le_of_ble_eq_true rfl, Nat.le_of_ble_eq_true rfl⟩ (by first | rfl | omega | simp_all) (by rw [hS1_2])
      · exfalso
        omega
    · exfalso
      omega
set_option maxHeartbeats 4000000 in
set_option maxRecDepth 100000 in
theorem c_X7_take_x {l : Launch} {Δ : zDl} {ad : zK → Nat} {P : zP} {S : zS} {X : zMem} {Q : zP} {g r : Int} (hV : zWM Q S) (h61 : Q 61 0 0 = P 61 0 0) (hrg : zR g) (hrr : zR r) (hn : ¬ ((0 ≤ g ∧ g < Q 3 0 0) ∧ (0 ≤ r ∧ r < 6))) : zMn l Δ yX7_take cX7_take 5 (some .int) 9 0 0 [.ref (ad (40, 0, 0, 0)), .int (zI g), .int (zI r)] ad (mm Δ ad P S X) (zD (some (.int (zI 0))) ad (mm Δ ad P (zst S (40, 0, 0, 0) 0 1) X)) := by
  refine zMn_of (by decide) (Nat.le_of_ble_eq_true rfl) (fun Γ hl hΔ hF => ?_)
  subst hl hΔ
  show G Γ _ _ _ RX7 _ _ _ _ _ [(0, .ref (ad (40, 0, 0, 0))), (1, .int (zI g)), (2, .int (zI r))] []
  have hq := hV.q
  have h23 := hV.g23
  refine G_aload_n (pc := 0) 0 0 dX7_take_0 rfl rfl ?_
  refine G_iconst (pc := 1) dX7_take_1 ?_
  refine G_putf (pc := 2) fl_X7_93 fp_X7_0 dX7_take_2 mg_40 (Nat.le_of_ble_eq_true rfl) rfl rfl (mp_40_0 _) ?_
  refine G_name (fun S1_2 hS1_2 => ?_)
  have hVS1_2 : zWM Q S1_2 := by rw [hS1_2]; exact hV.s40_0 (by first | assumption | exact ⟨by omega, by omega⟩)
  have h235 := hVS1_2.g23
  refine G_aload_n (pc := 5) 0 0 dX7_take_5 rfl rfl ?_
  refine G_iload_n (pc := 6) 1 1 dX7_take_6 rfl rfl ?_
  refine G_callVd (pc := 7) gk_X7_110 dX7_take_7 mg_40 rfl (c_X7_isGroup (Q := Q) (by first | assumption | omega | exact ⟨by omega, by omega⟩ | exact hS _ _ | exact hT _ _) (by first | assumption | omega | exact ⟨by omega, by omega⟩ | exact hS _ _ | exact hT _ _)) rfl rfl (Nat.le_of_ble_eq_true rfl) ⟨⟨Nat.le_of_ble_eq_true rfl, Nat.le_of_ble_eq_true rfl⟩, Nat.le_of_ble_eq_true rfl, Nat.le_of_ble_eq_true rfl⟩ ?_
  refine G_if_eq_b (pc := 10) 20 dX7_take_10 (by decide) (fun c10 => ?_) (fun c10 => ?_)
  · refine G_aload_n (pc := 20) 0 0 dX7_take_20 rfl rfl ?_
    refine G_iconst (pc := 21) dX7_take_21 ?_
    refine G_callVd (pc := 22) gk_X7_134 dX7_take_22 mg_40 rfl (c_X7_no (Q := Q) (by first | assumption | omega | exact ⟨by omega, by omega⟩ | exact hS _ _ | exact hT _ _) (by first | assumption | omega | exact ⟨by omega, by omega⟩ | exact hS _ _ | exact hT _ _)) rfl rfl (Nat.le_of_ble_eq_true rfl) ⟨⟨Nat.le_of_ble_eq_true rfl, Nat.le_of_ble_eq_true rfl⟩, Nat.le_of_ble_eq_true rfl, Nat.le_of_ble_eq_true rfl⟩ ?_
    refine G_name (fun S2_22 hS2_22 => ?_)
    have hVS2_22 : zWM Q S2_22 := by rw [hS2_22]; exact hVS1_2.s40_0 (by first | assumption | exact ⟨by omega, by omega⟩)
    exact G_iret_m (pc := 25) hF dX7_take_25 ⟨Nat.le_of_ble_eq_true rfl, Nat.le_of_ble_eq_true rfl⟩ (by first | rfl | omega | simp_all) (by rw [hS2_22, hS1_2, zst_zst])
  · refine G_iload_n (pc := 13) 2 2 dX7_take_13 rfl rfl ?_
    refine G_callSd (pc := 14) gk_X7_191 dX7_take_14 (c_X7_isReader (by first | assumption | omega | exact ⟨by omega, by omega⟩ | exact hS _ _ | exact hT _ _)) rfl rfl (Nat.le_of_ble_eq_true rfl) ⟨⟨Nat.le_of_ble_eq_true rfl, Nat.le_of_ble_eq_true rfl⟩, Nat.le_of_ble_eq_true rfl, Nat.le_of_ble_eq_true rfl⟩ ?_
    refine G_if_ne_b (pc := 17) 26 dX7_take_17 (by decide) (fun c17 => ?_) (fun c17 => ?_)
    · exfalso
      omega
    · refine G_aload_n (pc := 20) 0 0 dX7_take_20 rfl rfl ?_
      refine G_iconst (pc := 21) dX7_take_21 ?_
      refine G_callVd (pc := 22) gk_X7_134 dX7_take_22 mg_40 rfl (c_X7_no (Q := Q) (by first | assumption | omega | exact ⟨by omega, by omega⟩ | exact hS _ _ | exact hT _ _) (by first | assumption | omega | exact ⟨by omega, by omega⟩ | exact hS _ _ | exact hT _ _)) rfl rfl (Nat.le_of_ble_eq_true rfl) ⟨⟨Nat.le_of_ble_eq_true rfl, Nat.le_of_ble_eq_true rfl⟩, Nat.le_of_ble_eq_true rfl, Nat.le_of_ble_eq_true rfl⟩ ?_
      refine G_name (fun S3_22 hS3_22 => ?_)
      have hVS3_22 : zWM Q S3_22 := by rw [hS3_22]; exact hVS1_2.s40_0 (by first | assumption | exact ⟨by omega, by omega⟩)
      exact G_iret_m (pc := 25) hF dX7_take_25 ⟨Nat.le_of_ble_eq_true rfl, Nat.le_of_ble_eq_true rfl⟩ (by first | rfl | omega | simp_all) (by rw [hS3_22, hS1_2, zst_zst])
set_option maxHeartbeats 4000000 in
set_option maxRecDepth 100000 in
theorem c_X7_take_y {l : Launch} {Δ : zDl} {ad : zK → Nat} {P : zP} {S : zS} {X : zMem} {Q : zP} {g r : Int} (hV : zWM Q S) (hg : 0 ≤ g ∧ g < Q 3 0 0) (hr : 0 ≤ r ∧ r < 6) (h61 : Q 61 0 0 = P 61 0 0) (h1 : S (68, 0, 0, 0) (g * 6 + r) = 0) : zMn l Δ yX7_take cX7_take 5 (some .int) 9 0 0 [.ref (ad (40, 0, 0, 0)), .int (zI g), .int (zI r)] ad (mm Δ ad P S X) (zD (some (.int (zI 0))) ad (mm Δ ad P (zst S (40, 0, 0, 0) 0 2) X)) := by
  refine zMn_of (by decide) (Nat.le_of_ble_eq_true rfl) (fun Γ hl hΔ hF => ?_)
  subst hl hΔ
  show G Γ _ _ _ RX7 _ _ _ _ _ [(0, .ref (ad (40, 0, 0, 0))), (1, .int (zI g)), (2, .int (zI r))] []
  have hq := hV.q
  have h23 := hV.g23
  refine G_aload_n (pc := 0) 0 0 dX7_take_0 rfl rfl ?_
  refine G_iconst (pc := 1) dX7_take_1 ?_
  refine G_putf (pc := 2) fl_X7_93 fp_X7_0 dX7_take_2 mg_40 (Nat.le_of_ble_eq_true rfl) rfl rfl (mp_40_0 _) ?_
  refine G_name (fun S1_2 hS1_2 => ?_)
  have hVS1_2 : zWM Q S1_2 := by rw [hS1_2]; exact hV.s40_0 (by first | assumption | exact ⟨by omega, by omega⟩)
  have h235 := hVS1_2.g23
  have h68 : S1_2 (68, 0, 0, 0) (g * 6 + r) = S (68, 0, 0, 0) (g * 6 + r) := by rw [hS1_2, zst_k _ _ _ _ (by simp)]
  refine G_aload_n (pc := 5) 0 0 dX7_take_5 rfl rfl ?_
  refine G_iload_n (pc := 6) 1 1 dX7_take_6 rfl rfl ?_
  refine G_callVd (pc := 7) gk_X7_110 dX7_take_7 mg_40 rfl (c_X7_isGroup (Q := Q) (by first | assumption | omega | exact ⟨by omega, by omega⟩ | exact hS _ _ | exact hT _ _) (by first | assumption | omega | exact ⟨by omega, by omega⟩ | exact hS _ _ | exact hT _ _)) rfl rfl (Nat.le_of_ble_eq_true rfl) ⟨⟨Nat.le_of_ble_eq_true rfl, Nat.le_of_ble_eq_true rfl⟩, Nat.le_of_ble_eq_true rfl, Nat.le_of_ble_eq_true rfl⟩ ?_
  refine G_if_eq_b (pc := 10) 20 dX7_take_10 (by decide) (fun c10 => ?_) (fun c10 => ?_)
  · exfalso
    omega
  · refine G_iload_n (pc := 13) 2 2 dX7_take_13 rfl rfl ?_
    refine G_callSd (pc := 14) gk_X7_191 dX7_take_14 (c_X7_isReader (by first | assumption | omega | exact ⟨by omega, by omega⟩ | exact hS _ _ | exact hT _ _)) rfl rfl (Nat.le_of_ble_eq_true rfl) ⟨⟨Nat.le_of_ble_eq_true rfl, Nat.le_of_ble_eq_true rfl⟩, Nat.le_of_ble_eq_true rfl, Nat.le_of_ble_eq_true rfl⟩ ?_
    refine G_if_ne_b (pc := 17) 26 dX7_take_17 (by decide) (fun c17 => ?_) (fun c17 => ?_)
    · refine G_aload_n (pc := 26) 0 0 dX7_take_26 rfl rfl ?_
      refine G_getf (pc := 27) fl_X7_78 dX7_take_27 mg_40 rfl ?_
      refine G_iload_n (pc := 30) 1 1 dX7_take_30 rfl rfl ?_
      refine G_bipush (pc := 31) dX7_take_31 (by decide) ?_
      refine G_imul (pc := 33) dX7_take_33 ?_
      refine G_iload_n (pc := 34) 2 2 dX7_take_34 rfl rfl ?_
      refine G_iadd (pc := 35) dX7_take_35 ?_
      refine G_zald (pc := 36) dX7_take_36 mg_68 ⟨by omega, by omega, by omega, by omega⟩ ?_
      have hb36 := hVS1_2.b68 ((g * 6) + r)
      refine G_if_ne (pc := 37) 46 dX7_take_37 (by decide) (by first | exact hS _ _ | exact hT _ _ | exact ⟨by omega, by omega⟩ | assumption | exact zWM.r (by assumption) _ _ (by decide)) (fun c37 => ?_) (fun c37 => ?_)
      · exfalso
        omega
      · refine G_aload_n (pc := 40) 0 0 dX7_take_40 rfl rfl ?_
        refine G_iconst (pc := 41) dX7_take_41 ?_
        refine G_callVd (pc := 42) gk_X7_134 dX7_take_42 mg_40 rfl (c_X7_no (Q := Q) (by first | assumption | omega | exact ⟨by omega, by omega⟩ | exact hS _ _ | exact hT _ _) (by first | assumption | omega | exact ⟨by omega, by omega⟩ | exact hS _ _ | exact hT _ _)) rfl rfl (Nat.le_of_ble_eq_true rfl) ⟨⟨Nat.le_of_ble_eq_true rfl, Nat.le_of_ble_eq_true rfl⟩, Nat.le_of_ble_eq_true rfl, Nat.le_of_ble_eq_true rfl⟩ ?_
        refine G_name (fun S2_42 hS2_42 => ?_)
        have hVS2_42 : zWM Q S2_42 := by rw [hS2_42]; exact hVS1_2.s40_0 (by first | assumption | exact ⟨by omega, by omega⟩)
        exact G_iret_m (pc := 45) hF dX7_take_45 ⟨Nat.le_of_ble_eq_true rfl, Nat.le_of_ble_eq_true rfl⟩ (by first | rfl | omega | simp_all) (by rw [hS2_42, hS1_2, zst_zst])
    · exfalso
      omega
set_option maxHeartbeats 4000000 in
set_option maxRecDepth 100000 in
theorem c_X7_take_o {l : Launch} {Δ : zDl} {ad : zK → Nat} {P : zP} {S : zS} {X : zMem} {Q : zP} {g r m : Int} (hV : zWM Q S) (hX0 : X (90, 0, 0, 0) = none) (hg : 0 ≤ g ∧ g < Q 3 0 0) (hr : 0 ≤ r ∧ r < 6) (h61 : Q 61 0 0 = P 61 0 0) (h1 : ¬ S (68, 0, 0, 0) (g * 6 + r) = 0) (hm : 0 ≤ m ∧ m < 80) (hz : mgt Q (zst S (40, 0, 0, 0) 0 0) g r = m) (ht : S (70, 0, 0, 0) (g * 80 + m) ≤ 2) : zMn l Δ yX7_take cX7_take 5 (some .int) 9 1 5 [.ref (ad (40, 0, 0, 0)), .int (zI g), .int (zI r)] ad (mm Δ ad P S X) (zD (some (.int (zI (mtd (zst S (40, 0, 0, 0) 0 0) m)))) ad (mm Δ ad P (msa Q (mwr (mtk (zst S (40, 0, 0, 0) 0 0) g m) 0 g m)) X)) := by
  refine zMn_of (by decide) (Nat.le_of_ble_eq_true rfl) (fun Γ hl hΔ hF => ?_)
  subst hl hΔ
  show G Γ _ _ _ RX7 _ _ _ _ _ [(0, .ref (ad (40, 0, 0, 0))), (1, .int (zI g)), (2, .int (zI r))] []
  have hq := hV.q
  have h23 := hV.g23
  refine G_aload_n (pc := 0) 0 0 dX7_take_0 rfl rfl ?_
  refine G_iconst (pc := 1) dX7_take_1 ?_
  refine G_putf (pc := 2) fl_X7_93 fp_X7_0 dX7_take_2 mg_40 (Nat.le_of_ble_eq_true rfl) rfl rfl (mp_40_0 _) ?_
  refine G_name (fun S1_2 hS1_2 => ?_)
  have hVS1_2 : zWM Q S1_2 := by rw [hS1_2]; exact hV.s40_0 (by first | assumption | exact ⟨by omega, by omega⟩)
  have h235 := hVS1_2.g23
  have h68 : S1_2 (68, 0, 0, 0) (g * 6 + r) = S (68, 0, 0, 0) (g * 6 + r) := by rw [hS1_2, zst_k _ _ _ _ (by simp)]
  rw [← hS1_2] at hz
  refine G_aload_n (pc := 5) 0 0 dX7_take_5 rfl rfl ?_
  refine G_iload_n (pc := 6) 1 1 dX7_take_6 rfl rfl ?_
  refine G_callVd (pc := 7) gk_X7_110 dX7_take_7 mg_40 rfl (c_X7_isGroup (Q := Q) (by first | assumption | omega | exact ⟨by omega, by omega⟩ | exact hS _ _ | exact hT _ _) (by first | assumption | omega | exact ⟨by omega, by omega⟩ | exact hS _ _ | exact hT _ _)) rfl rfl (Nat.le_of_ble_eq_true rfl) ⟨⟨Nat.le_of_ble_eq_true rfl, Nat.le_of_ble_eq_true rfl⟩, Nat.le_of_ble_eq_true rfl, Nat.le_of_ble_eq_true rfl⟩ ?_
  refine G_if_eq_b (pc := 10) 20 dX7_take_10 (by decide) (fun c10 => ?_) (fun c10 => ?_)
  · exfalso
    omega
  · refine G_iload_n (pc := 13) 2 2 dX7_take_13 rfl rfl ?_
    refine G_callSd (pc := 14) gk_X7_191 dX7_take_14 (c_X7_isReader (by first | assumption | omega | exact ⟨by omega, by omega⟩ | exact hS _ _ | exact hT _ _)) rfl rfl (Nat.le_of_ble_eq_true rfl) ⟨⟨Nat.le_of_ble_eq_true rfl, Nat.le_of_ble_eq_true rfl⟩, Nat.le_of_ble_eq_true rfl, Nat.le_of_ble_eq_true rfl⟩ ?_
    refine G_if_ne_b (pc := 17) 26 dX7_take_17 (by decide) (fun c17 => ?_) (fun c17 => ?_)
    · refine G_aload_n (pc := 26) 0 0 dX7_take_26 rfl rfl ?_
      refine G_getf (pc := 27) fl_X7_78 dX7_take_27 mg_40 rfl ?_
      refine G_iload_n (pc := 30) 1 1 dX7_take_30 rfl rfl ?_
      refine G_bipush (pc := 31) dX7_take_31 (by decide) ?_
      refine G_imul (pc := 33) dX7_take_33 ?_
      refine G_iload_n (pc := 34) 2 2 dX7_take_34 rfl rfl ?_
      refine G_iadd (pc := 35) dX7_take_35 ?_
      refine G_zald (pc := 36) dX7_take_36 mg_68 ⟨by omega, by omega, by omega, by omega⟩ ?_
      have hb36 := hVS1_2.b68 ((g * 6) + r)
      refine G_if_ne (pc := 37) 46 dX7_take_37 (by decide) (by first | exact hS _ _ | exact hT _ _ | exact ⟨by omega, by omega⟩ | assumption | exact zWM.r (by assumption) _ _ (by decide)) (fun c37 => ?_) (fun c37 => ?_)
      · refine G_aload_n (pc := 46) 0 0 dX7_take_46 rfl rfl ?_
        refine G_iload_n (pc := 47) 1 1 dX7_take_47 rfl rfl ?_
        refine G_iload_n (pc := 48) 2 2 dX7_take_48 rfl rfl ?_
        refine G_callVd (pc := 49) gk_X7_210 dX7_take_49 mg_40 rfl (c_X7_givesTo (Q := Q) (by first | assumption | omega | exact ⟨by omega, by omega⟩ | exact hS _ _ | exact hT _ _) (by first | assumption | omega | exact ⟨by omega, by omega⟩ | exact hS _ _ | exact hT _ _) (by first | assumption | omega | exact ⟨by omega, by omega⟩ | exact hS _ _ | exact hT _ _) (by first | assumption | omega | exact ⟨by omega, by omega⟩ | exact hS _ _ | exact hT _ _)) rfl rfl (Nat.le_of_ble_eq_true rfl) ⟨⟨Nat.le_of_ble_eq_true rfl, Nat.le_of_ble_eq_true rfl⟩, Nat.le_of_ble_eq_true rfl, Nat.le_of_ble_eq_true rfl⟩ ?_
        have hb49 := mgt_le (Q := Q) (g := g) (r := r) hVS1_2
        refine G_istore_ne (pc := 52) 3 (fun zw => [(3, .int (zI zw)), (0, .ref (ad (40, 0, 0, 0))), (1, .int (zI g)), (2, .int (zI r))]) dX7_take_52 rfl (by decide) (fun _ => rfl) (fun v52 e52 => ?_)
        refine G_iload_n (pc := 53) 3 0 dX7_take_53 rfl rfl ?_
        refine G_iconst (pc := 54) dX7_take_54 ?_
        refine G_icmp_ne (pc := 55) 60 dX7_take_55 (by decide) (by first | exact hS _ _ | exact hT _ _ | exact ⟨by omega, by omega⟩ | assumption | exact zWM.r (by assumption) _ _ (by decide)) (by first | exact hS _ _ | exact hT _ _ | exact ⟨by omega, by omega⟩ | assumption | exact zWM.r (by assumption) _ _ (by decide)) (fun c55 => ?_) (fun c55 => ?_)
        · have e52' : v52 = m := by rw [e52, hz]
          clear e52
          subst e52'
          have hb52 := hVS1_2.b52 v52
          have hb53 := hVS1_2.b53 v52
          have h70x : S1_2 (70, 0, 0, 0) (g * 80 + v52) = S (70, 0, 0, 0) (g * 80 + v52) := by rw [hS1_2, zst_k _ _ _ _ (by simp)]
          refine G_iload_n (pc := 60) 1 2 dX7_take_60 rfl rfl ?_
          refine G_bipush (pc := 61) dX7_take_61 (by decide) ?_
          refine G_imul (pc := 63) dX7_take_63 ?_
          refine G_iload_n (pc := 64) 3 0 dX7_take_64 rfl rfl ?_
          refine G_iadd (pc := 65) dX7_take_65 ?_
          refine G_istore (pc := 66) [(4, .int (zI ((g * 80) + v52))), (3, .int (zI v52)), (0, .ref (ad (40, 0, 0, 0))), (1, .int (zI g)), (2, .int (zI r))] dX7_take_66 (by decide) rfl ?_
          refine G_aload_n (pc := 68) 0 2 dX7_take_68 rfl rfl ?_
          refine G_getf (pc := 69) fl_X7_81 dX7_take_69 mg_40 rfl ?_
          refine G_iload (pc := 72) 0 dX7_take_72 rfl ?_
          refine G_iald (pc := 74) dX7_take_74 mg_69 ⟨by omega, by omega, by omega, by omega⟩ ?_
          have hb74 := hVS1_2.b69 ((g * 80) + v52)
          refine G_if_ne (pc := 75) 103 dX7_take_75 (by decide) (by first | exact hS _ _ | exact hT _ _ | exact ⟨by omega, by omega⟩ | assumption | exact zWM.r (by assumption) _ _ (by decide)) (fun c75 => ?_) (fun c75 => ?_)
          · have h70 : S1_2 (70, 0, 0, 0) (g * 80 + v52) = S1_2 (70, 0, 0, 0) (g * 80 + v52) := by first | rfl | (rw [hS1_2, zst_k _ _ _ _ (by simp)])
            refine G_aload_n (pc := 103) 0 2 dX7_take_103 rfl rfl ?_
            refine G_getf (pc := 104) fl_X7_81 dX7_take_104 mg_40 rfl ?_
            refine G_iload (pc := 107) 0 dX7_take_107 rfl ?_
            refine G_iconst (pc := 109) dX7_take_109 ?_
            refine G_iast (pc := 110) dX7_take_110 mg_69 ⟨by omega, by omega, by omega, by omega⟩ (mp_69 _ _) ?_
            refine G_name (fun S2_110 hS2_110 => ?_)
            have hVS2_110 : zWM Q S2_110 := by rw [hS2_110]; exact hVS1_2.s69 ⟨by omega, by omega⟩
            have h702 : S2_110 (70, 0, 0, 0) (g * 80 + v52) = S1_2 (70, 0, 0, 0) (g * 80 + v52) := by first | (rw [hS2_110, zst_k _ _ _ _ (by simp)]; done) | (rw [hS2_110, zst_k _ _ _ _ (by simp)]; exact h70)
            refine G_aload_n (pc := 111) 0 2 dX7_take_111 rfl rfl ?_
            refine G_getf (pc := 112) fl_X7_84 dX7_take_112 mg_40 rfl ?_
            refine G_iload (pc := 115) 0 dX7_take_115 rfl ?_
            refine G_dup2 (pc := 117) dX7_take_117 rfl rfl ?_
            refine G_iald (pc := 118) dX7_take_118 mg_70 ⟨by omega, by omega, by omega, by omega⟩ ?_
            have hb118 := hVS2_110.b70 ((g * 80) + v52)
            refine G_iconst (pc := 119) dX7_take_119 ?_
            refine G_iadd (pc := 120) dX7_take_120 ?_
            refine G_iast (pc := 121) dX7_take_121 mg_70 ⟨by omega, by omega, by omega, by omega⟩ (mp_70 _ _) ?_
            refine G_name (fun S3_121 hS3_121 => ?_)
            have hVS3_121 : zWM Q S3_121 := by rw [hS3_121]; exact hVS2_110.s70 ⟨by omega, by omega⟩
            have hck : S3_121 (40, 0, 0, 0) 1 = S1_2 (40, 0, 0, 0) 1 := by first | (rw [hS3_121, zst_k _ _ _ _ (by simp), hS2_110, zst_k _ _ _ _ (by simp)]; done) | (rw [hS9_121, zst_k _ _ _ _ (by simp), hS8_110, zst_k _ _ _ _ (by simp), hS7_102, zst_k _ _ _ _ (by simp)])
            refine G_aload_n (pc := 122) 0 2 dX7_take_122 rfl rfl ?_
            refine G_getf (pc := 123) fl_X7_87 dX7_take_123 mg_40 rfl ?_
            refine G_iload (pc := 126) 0 dX7_take_126 rfl ?_
            refine G_aload_n (pc := 128) 0 2 dX7_take_128 rfl rfl ?_
            refine G_getf (pc := 129) fl_X7_143 dX7_take_129 mg_40 rfl ?_
            have hb129 := hVS3_121.f1
            refine G_iast (pc := 132) dX7_take_132 mg_71 ⟨by omega, by omega, by omega, by omega⟩ (mp_71 _ _) ?_
            refine G_name (fun S4_132 hS4_132 => ?_)
            have hVS4_132 : zWM Q S4_132 := by rw [hS4_132]; exact hVS3_121.s71 ⟨by omega, by omega⟩
            have hzk : S4_132 = mtk S1_2 g v52 := by first | (rw [hS4_132, hS3_121, h702, zst_k _ _ _ _ (by simp), hS2_110, zst_k _ _ _ _ (by simp)]; unfold mtk mt0; rw [if_neg c75]; done) | (rw [hS10_132, hS9_121, h702, zst_k _ _ _ _ (by simp), hS8_110, zst_k _ _ _ _ (by simp), hS7_102, zst_k _ _ _ _ (by simp)]; unfold mtk mt0; rw [if_pos c75])
            refine G_aload_n (pc := 133) 0 2 dX7_take_133 rfl rfl ?_
            refine G_iconst (pc := 134) dX7_take_134 ?_
            refine G_iload_n (pc := 135) 1 3 dX7_take_135 rfl rfl ?_
            refine G_iload_n (pc := 136) 3 1 dX7_take_136 rfl rfl ?_
            refine G_callVvA (pc := 137) gk_X7_213 dX7_take_137 mg_40 rfl (c_X7_write (Q := Q) (by first | assumption | omega | exact ⟨by omega, by omega⟩ | exact hS _ _ | exact hT _ _) (by first | assumption | omega | exact ⟨by omega, by omega⟩ | exact hS _ _ | exact hT _ _) (by first | assumption | omega | exact ⟨by omega, by omega⟩ | exact hS _ _ | exact hT _ _) (by first | assumption | omega | exact ⟨by omega, by omega⟩ | exact hS _ _ | exact hT _ _) (by first | assumption | omega | exact ⟨by omega, by omega⟩ | exact hS _ _ | exact hT _ _)) rfl rfl (Nat.le_of_ble_eq_true rfl) ⟨⟨Nat.le_of_ble_eq_true rfl, Nat.le_of_ble_eq_true rfl⟩, (by show 0 + 1 ≤ 1; omega), (by show 0 + 5 ≤ 5; omega)⟩ ?_
            show G Γ _ _ _ _ _ _ (1) (5) _ _ _
            refine G_name (fun S5_137 hS5_137 => ?_)
            have hVS5_137 : zWM Q S5_137 := by rw [hS5_137]; exact mwr_W hVS4_132 (by first | assumption | exact ⟨by omega, by omega⟩) (by first | assumption | exact ⟨by omega, by omega⟩)
            refine G_aload_n (pc := 140) 0 2 dX7_take_140 rfl rfl ?_
            refine G_callVv (pc := 141) gk_X7_146 dX7_take_141 mg_40 rfl (c_X7_settle (Q := Q) (by first | assumption | omega | exact ⟨by omega, by omega⟩ | exact hS _ _ | exact hT _ _) (by first | assumption | omega | exact ⟨by omega, by omega⟩ | exact hS _ _ | exact hT _ _)) rfl rfl (Nat.le_of_ble_eq_true rfl) ⟨⟨Nat.le_of_ble_eq_true rfl, Nat.le_of_ble_eq_true rfl⟩, Nat.le_of_ble_eq_true rfl, Nat.le_of_ble_eq_true rfl⟩ ?_
            refine G_name (fun S6_141 hS6_141 => ?_)
            have hVS6_141 : zWM Q S6_141 := by rw [hS6_141]; exact msa_W hVS5_137
            have hfr : zfr (fun n => n == 40 || n == 65 || n == 66 || n == 69 || n == 70 || n == 71 || n == 73) S1_2 S6_141 := by rw [hS6_141]; refine zfr.tr ?_ (msa_fr rfl rfl); (first | rw [hS5_137, hzk] | rw [hS11_137, hzk]); exact (mtk_fr rfl rfl rfl rfl).tr (mwr_fr rfl rfl)
            have h52 := hfr (52, 0, 0, 0) v52 rfl
            have h53 := hfr (53, 0, 0, 0) v52 rfl
            refine G_aload_n (pc := 144) 0 2 dX7_take_144 rfl rfl ?_
            refine G_getf (pc := 145) fl_X7_36 dX7_take_145 mg_40 rfl ?_
            refine G_iload_n (pc := 148) 3 1 dX7_take_148 rfl rfl ?_
            refine G_iald (pc := 149) dX7_take_149 mg_52 ⟨by omega, by omega, by omega, by omega⟩ ?_
            have hb149 := hVS6_141.b52 (v52)
            refine G_aload_n (pc := 150) 0 2 dX7_take_150 rfl rfl ?_
            refine G_getf (pc := 151) fl_X7_39 dX7_take_151 mg_40 rfl ?_
            refine G_iload_n (pc := 154) 3 1 dX7_take_154 rfl rfl ?_
            refine G_iald (pc := 155) dX7_take_155 mg_53 ⟨by omega, by omega, by omega, by omega⟩ ?_
            have hb155 := hVS6_141.b53 (v52)
            refine G_callSd (pc := 156) gk_X7_217 dX7_take_156 (c_X7_told (by first | assumption | omega | exact ⟨by omega, by omega⟩ | exact hS _ _ | exact hT _ _) (by first | assumption | omega | exact ⟨by omega, by omega⟩ | exact hS _ _ | exact hT _ _)) rfl rfl (Nat.le_of_ble_eq_true rfl) ⟨⟨Nat.le_of_ble_eq_true rfl, Nat.le_of_ble_eq_true rfl⟩, Nat.le_of_ble_eq_true rfl, Nat.le_of_ble_eq_true rfl⟩ ?_
            exact G_iret_m (pc := 159) hF dX7_take_159 ⟨Nat.le_of_ble_eq_true rfl, Nat.le_of_ble_eq_true rfl⟩ (by unfold mtd; rw [h52, h53, hS1_2]) (by first | rw [hS6_141, hS5_137, hzk, hS1_2] | rw [hS6_141, hS11_137, hzk, hS1_2])
          · refine G_aload_n (pc := 78) 0 2 dX7_take_78 rfl rfl ?_
            refine G_getf (pc := 79) fl_X7_72 dX7_take_79 mg_40 rfl ?_
            refine G_iload_n (pc := 82) 1 3 dX7_take_82 rfl rfl ?_
            refine G_iconst (pc := 83) dX7_take_83 ?_
            refine G_imul (pc := 84) dX7_take_84 ?_
            refine G_aload_n (pc := 85) 0 2 dX7_take_85 rfl rfl ?_
            refine G_getf (pc := 86) fl_X7_36 dX7_take_86 mg_40 rfl ?_
            refine G_iload_n (pc := 89) 3 1 dX7_take_89 rfl rfl ?_
            refine G_iald (pc := 90) dX7_take_90 mg_52 ⟨by omega, by omega, by omega, by omega⟩ ?_
            have hb90 := hVS1_2.b52 (v52)
            refine G_iconst (pc := 91) dX7_take_91 ?_
            refine G_irem (pc := 92) dX7_take_92 ⟨by omega, by omega, by omega⟩ ⟨by omega, by omega, by omega⟩ ?_
            refine G_iadd (pc := 93) dX7_take_93 ?_
            refine G_aload_n (pc := 94) 0 2 dX7_take_94 rfl rfl ?_
            refine G_getf (pc := 95) fl_X7_39 dX7_take_95 mg_40 rfl ?_
            refine G_iload_n (pc := 98) 3 1 dX7_take_98 rfl rfl ?_
            refine G_iald (pc := 99) dX7_take_99 mg_53 ⟨by omega, by omega, by omega, by omega⟩ ?_
            have hb99 := hVS1_2.b53 (v52)
            refine G_iconst (pc := 100) dX7_take_100 ?_
            refine G_iadd (pc := 101) dX7_take_101 ?_
            refine G_iast (pc := 102) dX7_take_102 mg_66 ⟨by omega, by omega, by omega, by omega⟩ (mp_66 _ _) ?_
            refine G_name (fun S7_102 hS7_102 => ?_)
            have hVS7_102 : zWM Q S7_102 := by rw [hS7_102]; exact hVS1_2.s66 ⟨by omega, by omega⟩
            have h70 : S7_102 (70, 0, 0, 0) (g * 80 + v52) = S1_2 (70, 0, 0, 0) (g * 80 + v52) := by first | rfl | (rw [hS7_102, zst_k _ _ _ _ (by simp)])
            refine G_aload_n (pc := 103) 0 2 dX7_take_103 rfl rfl ?_
            refine G_getf (pc := 104) fl_X7_81 dX7_take_104 mg_40 rfl ?_
            refine G_iload (pc := 107) 0 dX7_take_107 rfl ?_
            refine G_iconst (pc := 109) dX7_take_109 ?_
            refine G_iast (pc := 110) dX7_take_110 mg_69 ⟨by omega, by omega, by omega, by omega⟩ (mp_69 _ _) ?_
            refine G_name (fun S8_110 hS8_110 => ?_)
            have hVS8_110 : zWM Q S8_110 := by rw [hS8_110]; exact hVS7_102.s69 ⟨by omega, by omega⟩
            have h702 : S8_110 (70, 0, 0, 0) (g * 80 + v52) = S1_2 (70, 0, 0, 0) (g * 80 + v52) := by first | (rw [hS8_110, zst_k _ _ _ _ (by simp)]; done) | (rw [hS8_110, zst_k _ _ _ _ (by simp)]; exact h70)
            refine G_aload_n (pc := 111) 0 2 dX7_take_111 rfl rfl ?_
            refine G_getf (pc := 112) fl_X7_84 dX7_take_112 mg_40 rfl ?_
            refine G_iload (pc := 115) 0 dX7_take_115 rfl ?_
            refine G_dup2 (pc := 117) dX7_take_117 rfl rfl ?_
            refine G_iald (pc := 118) dX7_take_118 mg_70 ⟨by omega, by omega, by omega, by omega⟩ ?_
            have hb118 := hVS8_110.b70 ((g * 80) + v52)
            refine G_iconst (pc := 119) dX7_take_119 ?_
            refine G_iadd (pc := 120) dX7_take_120 ?_
            refine G_iast (pc := 121) dX7_take_121 mg_70 ⟨by omega, by omega, by omega, by omega⟩ (mp_70 _ _) ?_
            refine G_name (fun S9_121 hS9_121 => ?_)
            have hVS9_121 : zWM Q S9_121 := by rw [hS9_121]; exact hVS8_110.s70 ⟨by omega, by omega⟩
            have hck : S9_121 (40, 0, 0, 0) 1 = S1_2 (40, 0, 0, 0) 1 := by first | (rw [hS3_121, zst_k _ _ _ _ (by simp), hS2_110, zst_k _ _ _ _ (by simp)]; done) | (rw [hS9_121, zst_k _ _ _ _ (by simp), hS8_110, zst_k _ _ _ _ (by simp), hS7_102, zst_k _ _ _ _ (by simp)])
            refine G_aload_n (pc := 122) 0 2 dX7_take_122 rfl rfl ?_
            refine G_getf (pc := 123) fl_X7_87 dX7_take_123 mg_40 rfl ?_
            refine G_iload (pc := 126) 0 dX7_take_126 rfl ?_
            refine G_aload_n (pc := 128) 0 2 dX7_take_128 rfl rfl ?_
            refine G_getf (pc := 129) fl_X7_143 dX7_take_129 mg_40 rfl ?_
            have hb129 := hVS9_121.f1
            refine G_iast (pc := 132) dX7_take_132 mg_71 ⟨by omega, by omega, by omega, by omega⟩ (mp_71 _ _) ?_
            refine G_name (fun S10_132 hS10_132 => ?_)
            have hVS10_132 : zWM Q S10_132 := by rw [hS10_132]; exact hVS9_121.s71 ⟨by omega, by omega⟩
            have hzk : S10_132 = mtk S1_2 g v52 := by first | (rw [hS4_132, hS3_121, h702, zst_k _ _ _ _ (by simp), hS2_110, zst_k _ _ _ _ (by simp)]; unfold mtk mt0; rw [if_neg c75]; done) | (rw [hS10_132, hS9_121, h702, zst_k _ _ _ _ (by simp), hS8_110, zst_k _ _ _ _ (by simp), hS7_102, zst_k _ _ _ _ (by simp)]; unfold mtk mt0; rw [if_pos c75])
            refine G_aload_n (pc := 133) 0 2 dX7_take_133 rfl rfl ?_
            refine G_iconst (pc := 134) dX7_take_134 ?_
            refine G_iload_n (pc := 135) 1 3 dX7_take_135 rfl rfl ?_
            refine G_iload_n (pc := 136) 3 1 dX7_take_136 rfl rfl ?_
            refine G_callVvA (pc := 137) gk_X7_213 dX7_take_137 mg_40 rfl (c_X7_write (Q := Q) (by first | assumption | omega | exact ⟨by omega, by omega⟩ | exact hS _ _ | exact hT _ _) (by first | assumption | omega | exact ⟨by omega, by omega⟩ | exact hS _ _ | exact hT _ _) (by first | assumption | omega | exact ⟨by omega, by omega⟩ | exact hS _ _ | exact hT _ _) (by first | assumption | omega | exact ⟨by omega, by omega⟩ | exact hS _ _ | exact hT _ _) (by first | assumption | omega | exact ⟨by omega, by omega⟩ | exact hS _ _ | exact hT _ _)) rfl rfl (Nat.le_of_ble_eq_true rfl) ⟨⟨Nat.le_of_ble_eq_true rfl, Nat.le_of_ble_eq_true rfl⟩, (by show 0 + 1 ≤ 1; omega), (by show 0 + 5 ≤ 5; omega)⟩ ?_
            show G Γ _ _ _ _ _ _ (1) (5) _ _ _
            refine G_name (fun S11_137 hS11_137 => ?_)
            have hVS11_137 : zWM Q S11_137 := by rw [hS11_137]; exact mwr_W hVS10_132 (by first | assumption | exact ⟨by omega, by omega⟩) (by first | assumption | exact ⟨by omega, by omega⟩)
            refine G_aload_n (pc := 140) 0 2 dX7_take_140 rfl rfl ?_
            refine G_callVv (pc := 141) gk_X7_146 dX7_take_141 mg_40 rfl (c_X7_settle (Q := Q) (by first | assumption | omega | exact ⟨by omega, by omega⟩ | exact hS _ _ | exact hT _ _) (by first | assumption | omega | exact ⟨by omega, by omega⟩ | exact hS _ _ | exact hT _ _)) rfl rfl (Nat.le_of_ble_eq_true rfl) ⟨⟨Nat.le_of_ble_eq_true rfl, Nat.le_of_ble_eq_true rfl⟩, Nat.le_of_ble_eq_true rfl, Nat.le_of_ble_eq_true rfl⟩ ?_
            refine G_name (fun S12_141 hS12_141 => ?_)
            have hVS12_141 : zWM Q S12_141 := by rw [hS12_141]; exact msa_W hVS11_137
            have hfr : zfr (fun n => n == 40 || n == 65 || n == 66 || n == 69 || n == 70 || n == 71 || n == 73) S1_2 S12_141 := by rw [hS12_141]; refine zfr.tr ?_ (msa_fr rfl rfl); (first | rw [hS5_137, hzk] | rw [hS11_137, hzk]); exact (mtk_fr rfl rfl rfl rfl).tr (mwr_fr rfl rfl)
            have h52 := hfr (52, 0, 0, 0) v52 rfl
            have h53 := hfr (53, 0, 0, 0) v52 rfl
            refine G_aload_n (pc := 144) 0 2 dX7_take_144 rfl rfl ?_
            refine G_getf (pc := 145) fl_X7_36 dX7_take_145 mg_40 rfl ?_
            refine G_iload_n (pc := 148) 3 1 dX7_take_148 rfl rfl ?_
            refine G_iald (pc := 149) dX7_take_149 mg_52 ⟨by omega, by omega, by omega, by omega⟩ ?_
            have hb149 := hVS12_141.b52 (v52)
            refine G_aload_n (pc := 150) 0 2 dX7_take_150 rfl rfl ?_
            refine G_getf (pc := 151) fl_X7_39 dX7_take_151 mg_40 rfl ?_
            refine G_iload_n (pc := 154) 3 1 dX7_take_154 rfl rfl ?_
            refine G_iald (pc := 155) dX7_take_155 mg_53 ⟨by omega, by omega, by omega, by omega⟩ ?_
            have hb155 := hVS12_141.b53 (v52)
            refine G_callSd (pc := 156) gk_X7_217 dX7_take_156 (c_X7_told (by first | assumption | omega | exact ⟨by omega, by omega⟩ | exact hS _ _ | exact hT _ _) (by first | assumption | omega | exact ⟨by omega, by omega⟩ | exact hS _ _ | exact hT _ _)) rfl rfl (Nat.le_of_ble_eq_true rfl) ⟨⟨Nat.le_of_ble_eq_true rfl, Nat.le_of_ble_eq_true rfl⟩, Nat.le_of_ble_eq_true rfl, Nat.le_of_ble_eq_true rfl⟩ ?_
            exact G_iret_m (pc := 159) hF dX7_take_159 ⟨Nat.le_of_ble_eq_true rfl, Nat.le_of_ble_eq_true rfl⟩ (by unfold mtd; rw [h52, h53, hS1_2]) (by first | rw [hS12_141, hS5_137, hzk, hS1_2] | rw [hS12_141, hS11_137, hzk, hS1_2])
        · exfalso
          omega
      · exfalso
        omega
    · exfalso
      omega
set_option maxHeartbeats 4000000 in
set_option maxRecDepth 100000 in
theorem c_X7_answered {l : Launch} {Δ : zDl} {ad : zK → Nat} {P : zP} {S : zS} {X : zMem} {Q : zP} {g p o : Int} (hV : zWM Q S) (hg : 0 ≤ g ∧ g < Q 3 0 0) (hp : 0 ≤ p ∧ p < Q 1 (Q 4 g 0) 0) (ho : (0 ≤ o ∧ o < Q 2 (Q 4 g 0) p) ∧ S (69, 0, 0, 0) (g * 80 + S (59, 0, 0, 0) ((Q 4 g 0 * 4 + p) * 80 + o)) = 1) : zMn l Δ yX7_answered cX7_answered 5 (some .int) 4 0 0 [.ref (ad (40, 0, 0, 0)), .int (zI g), .int (zI p), .int (zI o)] ad (mm Δ ad P S X) (zD (some (.int (zI 0))) ad (mm Δ ad P S X)) := by
  refine zMn_of (by decide) (Nat.le_of_ble_eq_true rfl) (fun Γ hl hΔ hF => ?_)
  subst hl hΔ
  show G Γ _ _ _ RX7 _ _ _ _ _ [(0, .ref (ad (40, 0, 0, 0))), (1, .int (zI g)), (2, .int (zI p)), (3, .int (zI o))] []
  have hq := hV.q
  have hqg := hV.qg hg
  have hqt := hV.qt hqg
  have hgt := hV.gt hg
  have hgn := hV.gn hg
  have hqm := hV.qm hqg hp
  have hen := hV.en hqg hp
  refine G_aload_n (pc := 0) 0 0 dX7_answered_0 rfl rfl ?_
  refine G_iload_n (pc := 1) 1 1 dX7_answered_1 rfl rfl ?_
  refine G_iload_n (pc := 2) 2 2 dX7_answered_2 rfl rfl ?_
  refine G_callVd (pc := 3) gk_X7_220 dX7_answered_3 mg_40 rfl (c_X7_isShare (Q := Q) (by first | assumption | omega | exact ⟨by omega, by omega⟩ | exact hS _ _ | exact hT _ _) (by first | assumption | omega | exact ⟨by omega, by omega⟩ | exact hS _ _ | exact hT _ _) (by first | assumption | omega | exact ⟨by omega, by omega⟩ | exact hS _ _ | exact hT _ _)) rfl rfl (Nat.le_of_ble_eq_true rfl) ⟨⟨Nat.le_of_ble_eq_true rfl, Nat.le_of_ble_eq_true rfl⟩, Nat.le_of_ble_eq_true rfl, Nat.le_of_ble_eq_true rfl⟩ ?_
  refine G_if_ne_b (pc := 6) 11 dX7_answered_6 (by decide) (fun c6 => ?_) (fun c6 => ?_)
  · refine G_aload_n (pc := 11) 0 0 dX7_answered_11 rfl rfl ?_
    refine G_iload_n (pc := 12) 1 1 dX7_answered_12 rfl rfl ?_
    refine G_iload_n (pc := 13) 2 2 dX7_answered_13 rfl rfl ?_
    refine G_callVd (pc := 14) gk_X7_201 dX7_answered_14 mg_40 rfl (c_X7_whereOf (Q := Q) (by first | assumption | omega | exact ⟨by omega, by omega⟩ | exact hS _ _ | exact hT _ _) (by first | assumption | omega | exact ⟨by omega, by omega⟩ | exact hS _ _ | exact hT _ _)) rfl rfl (Nat.le_of_ble_eq_true rfl) ⟨⟨Nat.le_of_ble_eq_true rfl, Nat.le_of_ble_eq_true rfl⟩, Nat.le_of_ble_eq_true rfl, Nat.le_of_ble_eq_true rfl⟩ ?_
    refine G_istore (pc := 17) [(4, .int (zI (Q 4 g 0 * 4 + p))), (0, .ref (ad (40, 0, 0, 0))), (1, .int (zI g)), (2, .int (zI p)), (3, .int (zI o))] dX7_answered_17 (by decide) rfl ?_
    refine G_iload_n (pc := 19) 3 4 dX7_answered_19 rfl rfl ?_
    refine G_iconst (pc := 20) dX7_answered_20 ?_
    refine G_aload_n (pc := 21) 0 1 dX7_answered_21 rfl rfl ?_
    refine G_getf (pc := 22) fl_X7_26 dX7_answered_22 mg_40 rfl ?_
    refine G_iload (pc := 25) 0 dX7_answered_25 rfl ?_
    refine G_iald (pc := 27) dX7_answered_27 mg_48 ⟨by omega, by omega, by omega, by omega⟩ ?_
    have hb27 := hV.b48 (Q 4 g 0 * 4 + p)
    refine G_iconst (pc := 28) dX7_answered_28 ?_
    refine G_isub (pc := 29) dX7_answered_29 ?_
    refine G_callSd (pc := 30) gk_X7_99 dX7_answered_30 (c_X7_isWithin (by first | assumption | omega | exact ⟨by omega, by omega⟩ | exact hS _ _ | exact hT _ _) (by first | assumption | omega | exact ⟨by omega, by omega⟩ | exact hS _ _ | exact hT _ _) (by first | assumption | omega | exact ⟨by omega, by omega⟩ | exact hS _ _ | exact hT _ _)) rfl rfl (Nat.le_of_ble_eq_true rfl) ⟨⟨Nat.le_of_ble_eq_true rfl, Nat.le_of_ble_eq_true rfl⟩, Nat.le_of_ble_eq_true rfl, Nat.le_of_ble_eq_true rfl⟩ ?_
    refine G_if_eq_b (pc := 33) 61 dX7_answered_33 (by decide) (fun c33 => ?_) (fun c33 => ?_)
    · exfalso
      omega
    · refine G_aload_n (pc := 36) 0 1 dX7_answered_36 rfl rfl ?_
      refine G_getf (pc := 37) fl_X7_81 dX7_answered_37 mg_40 rfl ?_
      refine G_iload_n (pc := 40) 1 2 dX7_answered_40 rfl rfl ?_
      refine G_bipush (pc := 41) dX7_answered_41 (by decide) ?_
      refine G_imul (pc := 43) dX7_answered_43 ?_
      refine G_aload_n (pc := 44) 0 1 dX7_answered_44 rfl rfl ?_
      refine G_iload (pc := 45) 0 dX7_answered_45 rfl ?_
      refine G_iload_n (pc := 47) 3 4 dX7_answered_47 rfl rfl ?_
      refine G_callVd (pc := 48) gk_X7_113 dX7_answered_48 mg_40 rfl (c_X7_messageAt (Q := Q) (by first | assumption | omega | exact ⟨by omega, by omega⟩ | exact hS _ _ | exact hT _ _) (by first | assumption | omega | exact ⟨by omega, by omega⟩ | exact hS _ _ | exact hT _ _) (by first | assumption | omega | exact ⟨by omega, by omega⟩ | exact hS _ _ | exact hT _ _)) rfl rfl (Nat.le_of_ble_eq_true rfl) ⟨⟨Nat.le_of_ble_eq_true rfl, Nat.le_of_ble_eq_true rfl⟩, Nat.le_of_ble_eq_true rfl, Nat.le_of_ble_eq_true rfl⟩ ?_
      have hb48 := hV.b59 ((Q 4 g 0 * 4 + p) * 80 + o)
      refine G_iadd (pc := 51) dX7_answered_51 ?_
      refine G_iald (pc := 52) dX7_answered_52 mg_69 ⟨by omega, by omega, by omega, by omega⟩ ?_
      have hb52 := hV.b69 ((g * 80) + (S (59, 0, 0, 0) ((Q 4 g 0 * 4 + p) * 80 + o)))
      refine G_iconst (pc := 53) dX7_answered_53 ?_
      refine G_icmp_ne (pc := 54) 61 dX7_answered_54 (by decide) (by first | exact hS _ _ | exact hT _ _ | exact ⟨by omega, by omega⟩ | assumption | exact zWM.r (by assumption) _ _ (by decide)) (by first | exact hS _ _ | exact hT _ _ | exact ⟨by omega, by omega⟩ | assumption | exact zWM.r (by assumption) _ _ (by decide)) (fun c54 => ?_) (fun c54 => ?_)
      · exfalso
        omega
      · refine G_iconst (pc := 57) dX7_answered_57 ?_
        refine G_goto (pc := 58) 62 dX7_answered_58 (by decide) ?_
        exact G_iret_d (pc := 62) hF dX7_answered_62 ⟨Nat.le_of_ble_eq_true rfl, Nat.le_of_ble_eq_true rfl⟩ (by first | rfl | omega | simp_all)
  · exfalso
    exact c6 ⟨hg, hp⟩
set_option maxHeartbeats 4000000 in
set_option maxRecDepth 100000 in
theorem c_X7_answered_x {l : Launch} {Δ : zDl} {ad : zK → Nat} {P : zP} {S : zS} {X : zMem} {Q : zP} {g p o : Int} (hV : zWM Q S) (hrg : zR g) (hrp : zR p) (hn : ¬ ((0 ≤ g ∧ g < Q 3 0 0) ∧ (0 ≤ p ∧ p < Q 1 (Q 4 g 0) 0))) : zMn l Δ yX7_answered cX7_answered 5 (some .int) 4 0 0 [.ref (ad (40, 0, 0, 0)), .int (zI g), .int (zI p), .int (zI o)] ad (mm Δ ad P S X) (zD (some (.int (zI 1))) ad (mm Δ ad P S X)) := by
  refine zMn_of (by decide) (Nat.le_of_ble_eq_true rfl) (fun Γ hl hΔ hF => ?_)
  subst hl hΔ
  show G Γ _ _ _ RX7 _ _ _ _ _ [(0, .ref (ad (40, 0, 0, 0))), (1, .int (zI g)), (2, .int (zI p)), (3, .int (zI o))] []
  have hq := hV.q
  refine G_aload_n (pc := 0) 0 0 dX7_answered_0 rfl rfl ?_
  refine G_iload_n (pc := 1) 1 1 dX7_answered_1 rfl rfl ?_
  refine G_iload_n (pc := 2) 2 2 dX7_answered_2 rfl rfl ?_
  refine G_callVd (pc := 3) gk_X7_220 dX7_answered_3 mg_40 rfl (c_X7_isShare (Q := Q) (by first | assumption | omega | exact ⟨by omega, by omega⟩ | exact hS _ _ | exact hT _ _) (by first | assumption | omega | exact ⟨by omega, by omega⟩ | exact hS _ _ | exact hT _ _) (by first | assumption | omega | exact ⟨by omega, by omega⟩ | exact hS _ _ | exact hT _ _)) rfl rfl (Nat.le_of_ble_eq_true rfl) ⟨⟨Nat.le_of_ble_eq_true rfl, Nat.le_of_ble_eq_true rfl⟩, Nat.le_of_ble_eq_true rfl, Nat.le_of_ble_eq_true rfl⟩ ?_
  refine G_if_ne_b (pc := 6) 11 dX7_answered_6 (by decide) (fun c6 => ?_) (fun c6 => ?_)
  · exfalso
    exact hn c6
  · refine G_iconst (pc := 9) dX7_answered_9 ?_
    exact G_iret_d (pc := 10) hF dX7_answered_10 ⟨Nat.le_of_ble_eq_true rfl, Nat.le_of_ble_eq_true rfl⟩ (by first | rfl | omega | simp_all)
set_option maxHeartbeats 4000000 in
set_option maxRecDepth 100000 in
theorem c_X7_answered_y {l : Launch} {Δ : zDl} {ad : zK → Nat} {P : zP} {S : zS} {X : zMem} {Q : zP} {g p o : Int} (hV : zWM Q S) (hg : 0 ≤ g ∧ g < Q 3 0 0) (hp : 0 ≤ p ∧ p < Q 1 (Q 4 g 0) 0) (hro : zR o) (hn : ¬ ((0 ≤ o ∧ o < Q 2 (Q 4 g 0) p) ∧ S (69, 0, 0, 0) (g * 80 + S (59, 0, 0, 0) ((Q 4 g 0 * 4 + p) * 80 + o)) = 1)) : zMn l Δ yX7_answered cX7_answered 5 (some .int) 4 0 0 [.ref (ad (40, 0, 0, 0)), .int (zI g), .int (zI p), .int (zI o)] ad (mm Δ ad P S X) (zD (some (.int (zI 2))) ad (mm Δ ad P S X)) := by
  refine zMn_of (by decide) (Nat.le_of_ble_eq_true rfl) (fun Γ hl hΔ hF => ?_)
  subst hl hΔ
  show G Γ _ _ _ RX7 _ _ _ _ _ [(0, .ref (ad (40, 0, 0, 0))), (1, .int (zI g)), (2, .int (zI p)), (3, .int (zI o))] []
  have hq := hV.q
  have hqg := hV.qg hg
  have hqt := hV.qt hqg
  have hgt := hV.gt hg
  have hgn := hV.gn hg
  have hqm := hV.qm hqg hp
  have hen := hV.en hqg hp
  refine G_aload_n (pc := 0) 0 0 dX7_answered_0 rfl rfl ?_
  refine G_iload_n (pc := 1) 1 1 dX7_answered_1 rfl rfl ?_
  refine G_iload_n (pc := 2) 2 2 dX7_answered_2 rfl rfl ?_
  refine G_callVd (pc := 3) gk_X7_220 dX7_answered_3 mg_40 rfl (c_X7_isShare (Q := Q) (by first | assumption | omega | exact ⟨by omega, by omega⟩ | exact hS _ _ | exact hT _ _) (by first | assumption | omega | exact ⟨by omega, by omega⟩ | exact hS _ _ | exact hT _ _) (by first | assumption | omega | exact ⟨by omega, by omega⟩ | exact hS _ _ | exact hT _ _)) rfl rfl (Nat.le_of_ble_eq_true rfl) ⟨⟨Nat.le_of_ble_eq_true rfl, Nat.le_of_ble_eq_true rfl⟩, Nat.le_of_ble_eq_true rfl, Nat.le_of_ble_eq_true rfl⟩ ?_
  refine G_if_ne_b (pc := 6) 11 dX7_answered_6 (by decide) (fun c6 => ?_) (fun c6 => ?_)
  · refine G_aload_n (pc := 11) 0 0 dX7_answered_11 rfl rfl ?_
    refine G_iload_n (pc := 12) 1 1 dX7_answered_12 rfl rfl ?_
    refine G_iload_n (pc := 13) 2 2 dX7_answered_13 rfl rfl ?_
    refine G_callVd (pc := 14) gk_X7_201 dX7_answered_14 mg_40 rfl (c_X7_whereOf (Q := Q) (by first | assumption | omega | exact ⟨by omega, by omega⟩ | exact hS _ _ | exact hT _ _) (by first | assumption | omega | exact ⟨by omega, by omega⟩ | exact hS _ _ | exact hT _ _)) rfl rfl (Nat.le_of_ble_eq_true rfl) ⟨⟨Nat.le_of_ble_eq_true rfl, Nat.le_of_ble_eq_true rfl⟩, Nat.le_of_ble_eq_true rfl, Nat.le_of_ble_eq_true rfl⟩ ?_
    refine G_istore (pc := 17) [(4, .int (zI (Q 4 g 0 * 4 + p))), (0, .ref (ad (40, 0, 0, 0))), (1, .int (zI g)), (2, .int (zI p)), (3, .int (zI o))] dX7_answered_17 (by decide) rfl ?_
    refine G_iload_n (pc := 19) 3 4 dX7_answered_19 rfl rfl ?_
    refine G_iconst (pc := 20) dX7_answered_20 ?_
    refine G_aload_n (pc := 21) 0 1 dX7_answered_21 rfl rfl ?_
    refine G_getf (pc := 22) fl_X7_26 dX7_answered_22 mg_40 rfl ?_
    refine G_iload (pc := 25) 0 dX7_answered_25 rfl ?_
    refine G_iald (pc := 27) dX7_answered_27 mg_48 ⟨by omega, by omega, by omega, by omega⟩ ?_
    have hb27 := hV.b48 (Q 4 g 0 * 4 + p)
    refine G_iconst (pc := 28) dX7_answered_28 ?_
    refine G_isub (pc := 29) dX7_answered_29 ?_
    refine G_callSd (pc := 30) gk_X7_99 dX7_answered_30 (c_X7_isWithin (by first | assumption | omega | exact ⟨by omega, by omega⟩ | exact hS _ _ | exact hT _ _) (by first | assumption | omega | exact ⟨by omega, by omega⟩ | exact hS _ _ | exact hT _ _) (by first | assumption | omega | exact ⟨by omega, by omega⟩ | exact hS _ _ | exact hT _ _)) rfl rfl (Nat.le_of_ble_eq_true rfl) ⟨⟨Nat.le_of_ble_eq_true rfl, Nat.le_of_ble_eq_true rfl⟩, Nat.le_of_ble_eq_true rfl, Nat.le_of_ble_eq_true rfl⟩ ?_
    refine G_if_eq_b (pc := 33) 61 dX7_answered_33 (by decide) (fun c33 => ?_) (fun c33 => ?_)
    · refine G_iconst (pc := 61) dX7_answered_61 ?_
      exact G_iret_d (pc := 62) hF dX7_answered_62 ⟨Nat.le_of_ble_eq_true rfl, Nat.le_of_ble_eq_true rfl⟩ (by first | rfl | omega | simp_all)
    · refine G_aload_n (pc := 36) 0 1 dX7_answered_36 rfl rfl ?_
      refine G_getf (pc := 37) fl_X7_81 dX7_answered_37 mg_40 rfl ?_
      refine G_iload_n (pc := 40) 1 2 dX7_answered_40 rfl rfl ?_
      refine G_bipush (pc := 41) dX7_answered_41 (by decide) ?_
      refine G_imul (pc := 43) dX7_answered_43 ?_
      refine G_aload_n (pc := 44) 0 1 dX7_answered_44 rfl rfl ?_
      refine G_iload (pc := 45) 0 dX7_answered_45 rfl ?_
      refine G_iload_n (pc := 47) 3 4 dX7_answered_47 rfl rfl ?_
      refine G_callVd (pc := 48) gk_X7_113 dX7_answered_48 mg_40 rfl (c_X7_messageAt (Q := Q) (by first | assumption | omega | exact ⟨by omega, by omega⟩ | exact hS _ _ | exact hT _ _) (by first | assumption | omega | exact ⟨by omega, by omega⟩ | exact hS _ _ | exact hT _ _) (by first | assumption | omega | exact ⟨by omega, by omega⟩ | exact hS _ _ | exact hT _ _)) rfl rfl (Nat.le_of_ble_eq_true rfl) ⟨⟨Nat.le_of_ble_eq_true rfl, Nat.le_of_ble_eq_true rfl⟩, Nat.le_of_ble_eq_true rfl, Nat.le_of_ble_eq_true rfl⟩ ?_
      have hb48 := hV.b59 ((Q 4 g 0 * 4 + p) * 80 + o)
      refine G_iadd (pc := 51) dX7_answered_51 ?_
      refine G_iald (pc := 52) dX7_answered_52 mg_69 ⟨by omega, by omega, by omega, by omega⟩ ?_
      have hb52 := hV.b69 ((g * 80) + (S (59, 0, 0, 0) ((Q 4 g 0 * 4 + p) * 80 + o)))
      refine G_iconst (pc := 53) dX7_answered_53 ?_
      refine G_icmp_ne (pc := 54) 61 dX7_answered_54 (by decide) (by first | exact hS _ _ | exact hT _ _ | exact ⟨by omega, by omega⟩ | assumption | exact zWM.r (by assumption) _ _ (by decide)) (by first | exact hS _ _ | exact hT _ _ | exact ⟨by omega, by omega⟩ | assumption | exact zWM.r (by assumption) _ _ (by decide)) (fun c54 => ?_) (fun c54 => ?_)
      · refine G_iconst (pc := 61) dX7_answered_61 ?_
        exact G_iret_d (pc := 62) hF dX7_answered_62 ⟨Nat.le_of_ble_eq_true rfl, Nat.le_of_ble_eq_true rfl⟩ (by first | rfl | omega | simp_all)
      · exfalso
        exact hn ⟨by omega, c54⟩
  · exfalso
    exact c6 ⟨hg, hp⟩
set_option maxHeartbeats 4000000 in
set_option maxRecDepth 100000 in
theorem c_X7_ack_x {l : Launch} {Δ : zDl} {ad : zK → Nat} {P : zP} {S : zS} {X : zMem} {Q : zP} {g p o : Int} (hV : zWM Q S) (hX0 : X (90, 0, 0, 0) = none) (h61 : Q 61 0 0 = P 61 0 0) (hrg : zR g) (hrp : zR p) (hn : ¬ ((0 ≤ g ∧ g < Q 3 0 0) ∧ (0 ≤ p ∧ p < Q 1 (Q 4 g 0) 0))) : zMn l Δ yX7_ack cX7_ack 5 (some .int) 9 0 0 [.ref (ad (40, 0, 0, 0)), .int (zI g), .int (zI p), .int (zI o)] ad (mm Δ ad P S X) (zD (some (.int (zI 0))) ad (mm Δ ad P (zst S (40, 0, 0, 0) 0 1) X)) := by
  refine zMn_of (by decide) (Nat.le_of_ble_eq_true rfl) (fun Γ hl hΔ hF => ?_)
  subst hl hΔ
  show G Γ _ _ _ RX7 _ _ _ _ _ [(0, .ref (ad (40, 0, 0, 0))), (1, .int (zI g)), (2, .int (zI p)), (3, .int (zI o))] []
  have hq := hV.q
  refine G_aload_n (pc := 0) 0 0 dX7_ack_0 rfl rfl ?_
  refine G_aload_n (pc := 1) 0 0 dX7_ack_1 rfl rfl ?_
  refine G_iload_n (pc := 2) 1 1 dX7_ack_2 rfl rfl ?_
  refine G_iload_n (pc := 3) 2 2 dX7_ack_3 rfl rfl ?_
  refine G_iload_n (pc := 4) 3 3 dX7_ack_4 rfl rfl ?_
  refine G_callVd (pc := 5) gk_X7_223 dX7_ack_5 mg_40 rfl (c_X7_answered_x (Q := Q) (by first | assumption | omega | exact ⟨by omega, by omega⟩ | exact hS _ _ | exact hT _ _) (by first | assumption | omega | exact ⟨by omega, by omega⟩ | exact hS _ _ | exact hT _ _) (by first | assumption | omega | exact ⟨by omega, by omega⟩ | exact hS _ _ | exact hT _ _) (by first | assumption | omega | exact ⟨by omega, by omega⟩ | exact hS _ _ | exact hT _ _)) rfl rfl (Nat.le_of_ble_eq_true rfl) ⟨⟨Nat.le_of_ble_eq_true rfl, Nat.le_of_ble_eq_true rfl⟩, Nat.le_of_ble_eq_true rfl, Nat.le_of_ble_eq_true rfl⟩ ?_
  refine G_putf (pc := 8) fl_X7_93 fp_X7_0 dX7_ack_8 mg_40 (Nat.le_of_ble_eq_true rfl) rfl rfl (mp_40_0 _) ?_
  refine G_name (fun S1_8 hS1_8 => ?_)
  have hVS1_8 : zWM Q S1_8 := by rw [hS1_8]; exact hV.s40_0 (by first | assumption | exact ⟨by omega, by omega⟩)
  have h0 : S1_8 (40, 0, 0, 0) 0 = 1 := by rw [hS1_8, zst_s]
  refine G_aload_n (pc := 11) 0 0 dX7_ack_11 rfl rfl ?_
  refine G_getf (pc := 12) fl_X7_93 dX7_ack_12 mg_40 rfl ?_
  refine G_if_eq (pc := 15) 20 dX7_ack_15 (by decide) (by first | exact hS _ _ | exact hT _ _ | exact ⟨by omega, by omega⟩ | assumption | exact zWM.r (by assumption) _ _ (by decide)) (fun c15 => ?_) (fun c15 => ?_)
  · exfalso
    omega
  · refine G_iconst (pc := 18) dX7_ack_18 ?_
    exact G_iret_m (pc := 19) hF dX7_ack_19 ⟨Nat.le_of_ble_eq_true rfl, Nat.le_of_ble_eq_true rfl⟩ (by first | rfl | omega | simp_all) (by rw [hS1_8])
set_option maxHeartbeats 4000000 in
set_option maxRecDepth 100000 in
theorem c_X7_ack_y {l : Launch} {Δ : zDl} {ad : zK → Nat} {P : zP} {S : zS} {X : zMem} {Q : zP} {g p o : Int} (hV : zWM Q S) (hX0 : X (90, 0, 0, 0) = none) (h61 : Q 61 0 0 = P 61 0 0) (hg : 0 ≤ g ∧ g < Q 3 0 0) (hp : 0 ≤ p ∧ p < Q 1 (Q 4 g 0) 0) (hro : zR o) (hn : ¬ ((0 ≤ o ∧ o < Q 2 (Q 4 g 0) p) ∧ S (69, 0, 0, 0) (g * 80 + S (59, 0, 0, 0) ((Q 4 g 0 * 4 + p) * 80 + o)) = 1)) : zMn l Δ yX7_ack cX7_ack 5 (some .int) 9 0 0 [.ref (ad (40, 0, 0, 0)), .int (zI g), .int (zI p), .int (zI o)] ad (mm Δ ad P S X) (zD (some (.int (zI 0))) ad (mm Δ ad P (zst S (40, 0, 0, 0) 0 2) X)) := by
  refine zMn_of (by decide) (Nat.le_of_ble_eq_true rfl) (fun Γ hl hΔ hF => ?_)
  subst hl hΔ
  show G Γ _ _ _ RX7 _ _ _ _ _ [(0, .ref (ad (40, 0, 0, 0))), (1, .int (zI g)), (2, .int (zI p)), (3, .int (zI o))] []
  have hq := hV.q
  refine G_aload_n (pc := 0) 0 0 dX7_ack_0 rfl rfl ?_
  refine G_aload_n (pc := 1) 0 0 dX7_ack_1 rfl rfl ?_
  refine G_iload_n (pc := 2) 1 1 dX7_ack_2 rfl rfl ?_
  refine G_iload_n (pc := 3) 2 2 dX7_ack_3 rfl rfl ?_
  refine G_iload_n (pc := 4) 3 3 dX7_ack_4 rfl rfl ?_
  refine G_callVd (pc := 5) gk_X7_223 dX7_ack_5 mg_40 rfl (c_X7_answered_y (Q := Q) (by first | assumption | omega | exact ⟨by omega, by omega⟩ | exact hS _ _ | exact hT _ _) (by first | assumption | omega | exact ⟨by omega, by omega⟩ | exact hS _ _ | exact hT _ _) (by first | assumption | omega | exact ⟨by omega, by omega⟩ | exact hS _ _ | exact hT _ _) (by first | assumption | omega | exact ⟨by omega, by omega⟩ | exact hS _ _ | exact hT _ _) (by first | assumption | omega | exact ⟨by omega, by omega⟩ | exact hS _ _ | exact hT _ _)) rfl rfl (Nat.le_of_ble_eq_true rfl) ⟨⟨Nat.le_of_ble_eq_true rfl, Nat.le_of_ble_eq_true rfl⟩, Nat.le_of_ble_eq_true rfl, Nat.le_of_ble_eq_true rfl⟩ ?_
  refine G_putf (pc := 8) fl_X7_93 fp_X7_0 dX7_ack_8 mg_40 (Nat.le_of_ble_eq_true rfl) rfl rfl (mp_40_0 _) ?_
  refine G_name (fun S1_8 hS1_8 => ?_)
  have hVS1_8 : zWM Q S1_8 := by rw [hS1_8]; exact hV.s40_0 (by first | assumption | exact ⟨by omega, by omega⟩)
  have h0 : S1_8 (40, 0, 0, 0) 0 = 2 := by rw [hS1_8, zst_s]
  refine G_aload_n (pc := 11) 0 0 dX7_ack_11 rfl rfl ?_
  refine G_getf (pc := 12) fl_X7_93 dX7_ack_12 mg_40 rfl ?_
  refine G_if_eq (pc := 15) 20 dX7_ack_15 (by decide) (by first | exact hS _ _ | exact hT _ _ | exact ⟨by omega, by omega⟩ | assumption | exact zWM.r (by assumption) _ _ (by decide)) (fun c15 => ?_) (fun c15 => ?_)
  · exfalso
    omega
  · refine G_iconst (pc := 18) dX7_ack_18 ?_
    exact G_iret_m (pc := 19) hF dX7_ack_19 ⟨Nat.le_of_ble_eq_true rfl, Nat.le_of_ble_eq_true rfl⟩ (by first | rfl | omega | simp_all) (by rw [hS1_8])
set_option maxHeartbeats 4000000 in
set_option maxRecDepth 100000 in
theorem c_X7_nack_x {l : Launch} {Δ : zDl} {ad : zK → Nat} {P : zP} {S : zS} {X : zMem} {Q : zP} {g p o : Int} (hV : zWM Q S) (hX0 : X (90, 0, 0, 0) = none) (h61 : Q 61 0 0 = P 61 0 0) (hrg : zR g) (hrp : zR p) (hn : ¬ ((0 ≤ g ∧ g < Q 3 0 0) ∧ (0 ≤ p ∧ p < Q 1 (Q 4 g 0) 0))) : zMn l Δ yX7_nack cX7_nack 5 (some .int) 9 0 0 [.ref (ad (40, 0, 0, 0)), .int (zI g), .int (zI p), .int (zI o)] ad (mm Δ ad P S X) (zD (some (.int (zI 0))) ad (mm Δ ad P (zst S (40, 0, 0, 0) 0 1) X)) := by
  refine zMn_of (by decide) (Nat.le_of_ble_eq_true rfl) (fun Γ hl hΔ hF => ?_)
  subst hl hΔ
  show G Γ _ _ _ RX7 _ _ _ _ _ [(0, .ref (ad (40, 0, 0, 0))), (1, .int (zI g)), (2, .int (zI p)), (3, .int (zI o))] []
  have hq := hV.q
  refine G_aload_n (pc := 0) 0 0 dX7_nack_0 rfl rfl ?_
  refine G_aload_n (pc := 1) 0 0 dX7_nack_1 rfl rfl ?_
  refine G_iload_n (pc := 2) 1 1 dX7_nack_2 rfl rfl ?_
  refine G_iload_n (pc := 3) 2 2 dX7_nack_3 rfl rfl ?_
  refine G_iload_n (pc := 4) 3 3 dX7_nack_4 rfl rfl ?_
  refine G_callVd (pc := 5) gk_X7_223 dX7_nack_5 mg_40 rfl (c_X7_answered_x (Q := Q) (by first | assumption | omega | exact ⟨by omega, by omega⟩ | exact hS _ _ | exact hT _ _) (by first | assumption | omega | exact ⟨by omega, by omega⟩ | exact hS _ _ | exact hT _ _) (by first | assumption | omega | exact ⟨by omega, by omega⟩ | exact hS _ _ | exact hT _ _) (by first | assumption | omega | exact ⟨by omega, by omega⟩ | exact hS _ _ | exact hT _ _)) rfl rfl (Nat.le_of_ble_eq_true rfl) ⟨⟨Nat.le_of_ble_eq_true rfl, Nat.le_of_ble_eq_true rfl⟩, Nat.le_of_ble_eq_true rfl, Nat.le_of_ble_eq_true rfl⟩ ?_
  refine G_putf (pc := 8) fl_X7_93 fp_X7_0 dX7_nack_8 mg_40 (Nat.le_of_ble_eq_true rfl) rfl rfl (mp_40_0 _) ?_
  refine G_name (fun S1_8 hS1_8 => ?_)
  have hVS1_8 : zWM Q S1_8 := by rw [hS1_8]; exact hV.s40_0 (by first | assumption | exact ⟨by omega, by omega⟩)
  have h0 : S1_8 (40, 0, 0, 0) 0 = 1 := by rw [hS1_8, zst_s]
  refine G_aload_n (pc := 11) 0 0 dX7_nack_11 rfl rfl ?_
  refine G_getf (pc := 12) fl_X7_93 dX7_nack_12 mg_40 rfl ?_
  refine G_if_eq (pc := 15) 20 dX7_nack_15 (by decide) (by first | exact hS _ _ | exact hT _ _ | exact ⟨by omega, by omega⟩ | assumption | exact zWM.r (by assumption) _ _ (by decide)) (fun c15 => ?_) (fun c15 => ?_)
  · exfalso
    omega
  · refine G_iconst (pc := 18) dX7_nack_18 ?_
    exact G_iret_m (pc := 19) hF dX7_nack_19 ⟨Nat.le_of_ble_eq_true rfl, Nat.le_of_ble_eq_true rfl⟩ (by first | rfl | omega | simp_all) (by rw [hS1_8])
set_option maxHeartbeats 4000000 in
set_option maxRecDepth 100000 in
theorem c_X7_nack_y {l : Launch} {Δ : zDl} {ad : zK → Nat} {P : zP} {S : zS} {X : zMem} {Q : zP} {g p o : Int} (hV : zWM Q S) (hX0 : X (90, 0, 0, 0) = none) (h61 : Q 61 0 0 = P 61 0 0) (hg : 0 ≤ g ∧ g < Q 3 0 0) (hp : 0 ≤ p ∧ p < Q 1 (Q 4 g 0) 0) (hro : zR o) (hn : ¬ ((0 ≤ o ∧ o < Q 2 (Q 4 g 0) p) ∧ S (69, 0, 0, 0) (g * 80 + S (59, 0, 0, 0) ((Q 4 g 0 * 4 + p) * 80 + o)) = 1)) : zMn l Δ yX7_nack cX7_nack 5 (some .int) 9 0 0 [.ref (ad (40, 0, 0, 0)), .int (zI g), .int (zI p), .int (zI o)] ad (mm Δ ad P S X) (zD (some (.int (zI 0))) ad (mm Δ ad P (zst S (40, 0, 0, 0) 0 2) X)) := by
  refine zMn_of (by decide) (Nat.le_of_ble_eq_true rfl) (fun Γ hl hΔ hF => ?_)
  subst hl hΔ
  show G Γ _ _ _ RX7 _ _ _ _ _ [(0, .ref (ad (40, 0, 0, 0))), (1, .int (zI g)), (2, .int (zI p)), (3, .int (zI o))] []
  have hq := hV.q
  refine G_aload_n (pc := 0) 0 0 dX7_nack_0 rfl rfl ?_
  refine G_aload_n (pc := 1) 0 0 dX7_nack_1 rfl rfl ?_
  refine G_iload_n (pc := 2) 1 1 dX7_nack_2 rfl rfl ?_
  refine G_iload_n (pc := 3) 2 2 dX7_nack_3 rfl rfl ?_
  refine G_iload_n (pc := 4) 3 3 dX7_nack_4 rfl rfl ?_
  refine G_callVd (pc := 5) gk_X7_223 dX7_nack_5 mg_40 rfl (c_X7_answered_y (Q := Q) (by first | assumption | omega | exact ⟨by omega, by omega⟩ | exact hS _ _ | exact hT _ _) (by first | assumption | omega | exact ⟨by omega, by omega⟩ | exact hS _ _ | exact hT _ _) (by first | assumption | omega | exact ⟨by omega, by omega⟩ | exact hS _ _ | exact hT _ _) (by first | assumption | omega | exact ⟨by omega, by omega⟩ | exact hS _ _ | exact hT _ _) (by first | assumption | omega | exact ⟨by omega, by omega⟩ | exact hS _ _ | exact hT _ _)) rfl rfl (Nat.le_of_ble_eq_true rfl) ⟨⟨Nat.le_of_ble_eq_true rfl, Nat.le_of_ble_eq_true rfl⟩, Nat.le_of_ble_eq_true rfl, Nat.le_of_ble_eq_true rfl⟩ ?_
  refine G_putf (pc := 8) fl_X7_93 fp_X7_0 dX7_nack_8 mg_40 (Nat.le_of_ble_eq_true rfl) rfl rfl (mp_40_0 _) ?_
  refine G_name (fun S1_8 hS1_8 => ?_)
  have hVS1_8 : zWM Q S1_8 := by rw [hS1_8]; exact hV.s40_0 (by first | assumption | exact ⟨by omega, by omega⟩)
  have h0 : S1_8 (40, 0, 0, 0) 0 = 2 := by rw [hS1_8, zst_s]
  refine G_aload_n (pc := 11) 0 0 dX7_nack_11 rfl rfl ?_
  refine G_getf (pc := 12) fl_X7_93 dX7_nack_12 mg_40 rfl ?_
  refine G_if_eq (pc := 15) 20 dX7_nack_15 (by decide) (by first | exact hS _ _ | exact hT _ _ | exact ⟨by omega, by omega⟩ | assumption | exact zWM.r (by assumption) _ _ (by decide)) (fun c15 => ?_) (fun c15 => ?_)
  · exfalso
    omega
  · refine G_iconst (pc := 18) dX7_nack_18 ?_
    exact G_iret_m (pc := 19) hF dX7_nack_19 ⟨Nat.le_of_ble_eq_true rfl, Nat.le_of_ble_eq_true rfl⟩ (by first | rfl | omega | simp_all) (by rw [hS1_8])
set_option maxHeartbeats 4000000 in
set_option maxRecDepth 100000 in
theorem c_X7_ack {l : Launch} {Δ : zDl} {ad : zK → Nat} {P : zP} {S : zS} {X : zMem} {Q : zP} {g p o : Int} (hV : zWM Q S) (hX0 : X (90, 0, 0, 0) = none) (h61 : Q 61 0 0 = P 61 0 0) (hg : 0 ≤ g ∧ g < Q 3 0 0) (hp : 0 ≤ p ∧ p < Q 1 (Q 4 g 0) 0) (ho : (0 ≤ o ∧ o < Q 2 (Q 4 g 0) p) ∧ S (69, 0, 0, 0) (g * 80 + S (59, 0, 0, 0) ((Q 4 g 0 * 4 + p) * 80 + o)) = 1) : zMn l Δ yX7_ack cX7_ack 5 (some .int) 9 1 5 [.ref (ad (40, 0, 0, 0)), .int (zI g), .int (zI p), .int (zI o)] ad (mm Δ ad P S X) (zD (some (.int (zI ((msa Q (mwr (zst (zst S (40, 0, 0, 0) 0 0) (69, 0, 0, 0) (g * 80 + (zst S (40, 0, 0, 0) 0 0) (59, 0, 0, 0) ((Q 4 g 0 * 4 + p) * 80 + o)) 3) 1 g ((zst S (40, 0, 0, 0) 0 0) (59, 0, 0, 0) ((Q 4 g 0 * 4 + p) * 80 + o)))) (65, 0, 0, 0) (g * 4 + p))))) ad (mm Δ ad P (msa Q (mwr (zst (zst S (40, 0, 0, 0) 0 0) (69, 0, 0, 0) (g * 80 + (zst S (40, 0, 0, 0) 0 0) (59, 0, 0, 0) ((Q 4 g 0 * 4 + p) * 80 + o)) 3) 1 g ((zst S (40, 0, 0, 0) 0 0) (59, 0, 0, 0) ((Q 4 g 0 * 4 + p) * 80 + o)))) X)) := by
  refine zMn_of (by decide) (Nat.le_of_ble_eq_true rfl) (fun Γ hl hΔ hF => ?_)
  subst hl hΔ
  show G Γ _ _ _ RX7 _ _ _ _ _ [(0, .ref (ad (40, 0, 0, 0))), (1, .int (zI g)), (2, .int (zI p)), (3, .int (zI o))] []
  have hq := hV.q
  have hqg := hV.qg hg
  have hqt := hV.qt hqg
  have hgt := hV.gt hg
  have hgn := hV.gn hg
  have hqm := hV.qm hqg hp
  have hen := hV.en hqg hp
  refine G_aload_n (pc := 0) 0 0 dX7_ack_0 rfl rfl ?_
  refine G_aload_n (pc := 1) 0 0 dX7_ack_1 rfl rfl ?_
  refine G_iload_n (pc := 2) 1 1 dX7_ack_2 rfl rfl ?_
  refine G_iload_n (pc := 3) 2 2 dX7_ack_3 rfl rfl ?_
  refine G_iload_n (pc := 4) 3 3 dX7_ack_4 rfl rfl ?_
  refine G_callVd (pc := 5) gk_X7_223 dX7_ack_5 mg_40 rfl (c_X7_answered (Q := Q) (by first | assumption | omega | exact ⟨by omega, by omega⟩ | exact hS _ _ | exact hT _ _) (by first | assumption | omega | exact ⟨by omega, by omega⟩ | exact hS _ _ | exact hT _ _) (by first | assumption | omega | exact ⟨by omega, by omega⟩ | exact hS _ _ | exact hT _ _) (by first | assumption | omega | exact ⟨by omega, by omega⟩ | exact hS _ _ | exact hT _ _)) rfl rfl (Nat.le_of_ble_eq_true rfl) ⟨⟨Nat.le_of_ble_eq_true rfl, Nat.le_of_ble_eq_true rfl⟩, Nat.le_of_ble_eq_true rfl, Nat.le_of_ble_eq_true rfl⟩ ?_
  refine G_putf (pc := 8) fl_X7_93 fp_X7_0 dX7_ack_8 mg_40 (Nat.le_of_ble_eq_true rfl) rfl rfl (mp_40_0 _) ?_
  refine G_name (fun S1_8 hS1_8 => ?_)
  have hVS1_8 : zWM Q S1_8 := by rw [hS1_8]; exact hV.s40_0 (by first | assumption | exact ⟨by omega, by omega⟩)
  have h0 : S1_8 (40, 0, 0, 0) 0 = 0 := by rw [hS1_8, zst_s]
  refine G_aload_n (pc := 11) 0 0 dX7_ack_11 rfl rfl ?_
  refine G_getf (pc := 12) fl_X7_93 dX7_ack_12 mg_40 rfl ?_
  refine G_if_eq (pc := 15) 20 dX7_ack_15 (by decide) (by first | exact hS _ _ | exact hT _ _ | exact ⟨by omega, by omega⟩ | assumption | exact zWM.r (by assumption) _ _ (by decide)) (fun c15 => ?_) (fun c15 => ?_)
  · refine G_aload_n (pc := 20) 0 0 dX7_ack_20 rfl rfl ?_
    refine G_aload_n (pc := 21) 0 0 dX7_ack_21 rfl rfl ?_
    refine G_iload_n (pc := 22) 1 1 dX7_ack_22 rfl rfl ?_
    refine G_iload_n (pc := 23) 2 2 dX7_ack_23 rfl rfl ?_
    refine G_callVd (pc := 24) gk_X7_201 dX7_ack_24 mg_40 rfl (c_X7_whereOf (Q := Q) (by first | assumption | omega | exact ⟨by omega, by omega⟩ | exact hS _ _ | exact hT _ _) (by first | assumption | omega | exact ⟨by omega, by omega⟩ | exact hS _ _ | exact hT _ _)) rfl rfl (Nat.le_of_ble_eq_true rfl) ⟨⟨Nat.le_of_ble_eq_true rfl, Nat.le_of_ble_eq_true rfl⟩, Nat.le_of_ble_eq_true rfl, Nat.le_of_ble_eq_true rfl⟩ ?_
    refine G_iload_n (pc := 27) 3 3 dX7_ack_27 rfl rfl ?_
    refine G_callVd (pc := 28) gk_X7_113 dX7_ack_28 mg_40 rfl (c_X7_messageAt (Q := Q) (by first | assumption | omega | exact ⟨by omega, by omega⟩ | exact hS _ _ | exact hT _ _) (by first | assumption | omega | exact ⟨by omega, by omega⟩ | exact hS _ _ | exact hT _ _) (by first | assumption | omega | exact ⟨by omega, by omega⟩ | exact hS _ _ | exact hT _ _)) rfl rfl (Nat.le_of_ble_eq_true rfl) ⟨⟨Nat.le_of_ble_eq_true rfl, Nat.le_of_ble_eq_true rfl⟩, Nat.le_of_ble_eq_true rfl, Nat.le_of_ble_eq_true rfl⟩ ?_
    have hb28 := hVS1_8.b59 ((Q 4 g 0 * 4 + p) * 80 + o)
    refine G_istore (pc := 31) [(4, .int (zI (S1_8 (59, 0, 0, 0) ((Q 4 g 0 * 4 + p) * 80 + o)))), (0, .ref (ad (40, 0, 0, 0))), (1, .int (zI g)), (2, .int (zI p)), (3, .int (zI o))] dX7_ack_31 (by decide) rfl ?_
    refine G_aload_n (pc := 33) 0 1 dX7_ack_33 rfl rfl ?_
    refine G_getf (pc := 34) fl_X7_81 dX7_ack_34 mg_40 rfl ?_
    refine G_iload_n (pc := 37) 1 2 dX7_ack_37 rfl rfl ?_
    refine G_bipush (pc := 38) dX7_ack_38 (by decide) ?_
    refine G_imul (pc := 40) dX7_ack_40 ?_
    refine G_iload (pc := 41) 0 dX7_ack_41 rfl ?_
    refine G_iadd (pc := 43) dX7_ack_43 ?_
    refine G_iconst (pc := 44) dX7_ack_44 ?_
    refine G_iast (pc := 45) dX7_ack_45 mg_69 ⟨by omega, by omega, by omega, by omega⟩ (mp_69 _ _) ?_
    refine G_name (fun S2_45 hS2_45 => ?_)
    have hVS2_45 : zWM Q S2_45 := by rw [hS2_45]; exact hVS1_8.s69 ⟨by omega, by omega⟩
    refine G_aload_n (pc := 46) 0 1 dX7_ack_46 rfl rfl ?_
    refine G_iconst (pc := 47) dX7_ack_47 ?_
    refine G_iload_n (pc := 48) 1 2 dX7_ack_48 rfl rfl ?_
    refine G_iload (pc := 49) 0 dX7_ack_49 rfl ?_
    refine G_callVvA (pc := 51) gk_X7_213 dX7_ack_51 mg_40 rfl (c_X7_write (Q := Q) (by first | assumption | omega | exact ⟨by omega, by omega⟩ | exact hS _ _ | exact hT _ _) (by first | assumption | omega | exact ⟨by omega, by omega⟩ | exact hS _ _ | exact hT _ _) (by first | assumption | omega | exact ⟨by omega, by omega⟩ | exact hS _ _ | exact hT _ _) (by first | assumption | omega | exact ⟨by omega, by omega⟩ | exact hS _ _ | exact hT _ _) (by first | assumption | omega | exact ⟨by omega, by omega⟩ | exact hS _ _ | exact hT _ _)) rfl rfl (Nat.le_of_ble_eq_true rfl) ⟨⟨Nat.le_of_ble_eq_true rfl, Nat.le_of_ble_eq_true rfl⟩, (by show 0 + 1 ≤ 1; omega), (by show 0 + 5 ≤ 5; omega)⟩ ?_
    show G Γ _ _ _ _ _ _ (1) (5) _ _ _
    refine G_name (fun S3_51 hS3_51 => ?_)
    have hVS3_51 : zWM Q S3_51 := by rw [hS3_51]; exact mwr_W hVS2_45 (by first | assumption | exact ⟨by omega, by omega⟩) (by first | assumption | exact ⟨by omega, by omega⟩)
    refine G_aload_n (pc := 54) 0 1 dX7_ack_54 rfl rfl ?_
    refine G_callVv (pc := 55) gk_X7_146 dX7_ack_55 mg_40 rfl (c_X7_settle (Q := Q) (by first | assumption | omega | exact ⟨by omega, by omega⟩ | exact hS _ _ | exact hT _ _) (by first | assumption | omega | exact ⟨by omega, by omega⟩ | exact hS _ _ | exact hT _ _)) rfl rfl (Nat.le_of_ble_eq_true rfl) ⟨⟨Nat.le_of_ble_eq_true rfl, Nat.le_of_ble_eq_true rfl⟩, Nat.le_of_ble_eq_true rfl, Nat.le_of_ble_eq_true rfl⟩ ?_
    refine G_name (fun S4_55 hS4_55 => ?_)
    have hVS4_55 : zWM Q S4_55 := by rw [hS4_55]; exact msa_W hVS3_51
    refine G_aload_n (pc := 58) 0 1 dX7_ack_58 rfl rfl ?_
    refine G_getf (pc := 59) fl_X7_69 dX7_ack_59 mg_40 rfl ?_
    refine G_iload_n (pc := 62) 1 2 dX7_ack_62 rfl rfl ?_
    refine G_iconst (pc := 63) dX7_ack_63 ?_
    refine G_imul (pc := 64) dX7_ack_64 ?_
    refine G_iload_n (pc := 65) 2 3 dX7_ack_65 rfl rfl ?_
    refine G_iadd (pc := 66) dX7_ack_66 ?_
    refine G_iald (pc := 67) dX7_ack_67 mg_65 ⟨by omega, by omega, by omega, by omega⟩ ?_
    have hb67 := hVS4_55.b65 ((g * 4) + p)
    exact G_iret_m (pc := 68) hF dX7_ack_68 ⟨Nat.le_of_ble_eq_true rfl, Nat.le_of_ble_eq_true rfl⟩ (by rw [hS4_55, hS3_51, hS2_45, hS1_8]) (by rw [hS4_55, hS3_51, hS2_45, hS1_8])
  · exfalso
    omega
set_option maxHeartbeats 4000000 in
set_option maxRecDepth 100000 in
theorem c_X7_nack {l : Launch} {Δ : zDl} {ad : zK → Nat} {P : zP} {S : zS} {X : zMem} {Q : zP} {g p o : Int} (hV : zWM Q S) (hX0 : X (90, 0, 0, 0) = none) (h61 : Q 61 0 0 = P 61 0 0) (hg : 0 ≤ g ∧ g < Q 3 0 0) (hp : 0 ≤ p ∧ p < Q 1 (Q 4 g 0) 0) (ho : (0 ≤ o ∧ o < Q 2 (Q 4 g 0) p) ∧ S (69, 0, 0, 0) (g * 80 + S (59, 0, 0, 0) ((Q 4 g 0 * 4 + p) * 80 + o)) = 1) (ht1 : 1 ≤ S (70, 0, 0, 0) (g * 80 + S (59, 0, 0, 0) ((Q 4 g 0 * 4 + p) * 80 + o))) : zMn l Δ yX7_nack cX7_nack 5 (some .int) 9 2 10 [.ref (ad (40, 0, 0, 0)), .int (zI g), .int (zI p), .int (zI o)] ad (mm Δ ad P S X) (zD (some (.int (zI (mnr (zst S (40, 0, 0, 0) 0 0) g ((zst S (40, 0, 0, 0) 0 0) (59, 0, 0, 0) ((Q 4 g 0 * 4 + p) * 80 + o)))))) ad (mm Δ ad P (msa Q (mnk (zst S (40, 0, 0, 0) 0 0) g ((zst S (40, 0, 0, 0) 0 0) (59, 0, 0, 0) ((Q 4 g 0 * 4 + p) * 80 + o)))) X)) := by
  refine zMn_of (by decide) (Nat.le_of_ble_eq_true rfl) (fun Γ hl hΔ hF => ?_)
  subst hl hΔ
  show G Γ _ _ _ RX7 _ _ _ _ _ [(0, .ref (ad (40, 0, 0, 0))), (1, .int (zI g)), (2, .int (zI p)), (3, .int (zI o))] []
  have hq := hV.q
  have hqg := hV.qg hg
  have hqt := hV.qt hqg
  have hgt := hV.gt hg
  have hgn := hV.gn hg
  have hqm := hV.qm hqg hp
  have hen := hV.en hqg hp
  refine G_aload_n (pc := 0) 0 0 dX7_nack_0 rfl rfl ?_
  refine G_aload_n (pc := 1) 0 0 dX7_nack_1 rfl rfl ?_
  refine G_iload_n (pc := 2) 1 1 dX7_nack_2 rfl rfl ?_
  refine G_iload_n (pc := 3) 2 2 dX7_nack_3 rfl rfl ?_
  refine G_iload_n (pc := 4) 3 3 dX7_nack_4 rfl rfl ?_
  refine G_callVd (pc := 5) gk_X7_223 dX7_nack_5 mg_40 rfl (c_X7_answered (Q := Q) (by first | assumption | omega | exact ⟨by omega, by omega⟩ | exact hS _ _ | exact hT _ _) (by first | assumption | omega | exact ⟨by omega, by omega⟩ | exact hS _ _ | exact hT _ _) (by first | assumption | omega | exact ⟨by omega, by omega⟩ | exact hS _ _ | exact hT _ _) (by first | assumption | omega | exact ⟨by omega, by omega⟩ | exact hS _ _ | exact hT _ _)) rfl rfl (Nat.le_of_ble_eq_true rfl) ⟨⟨Nat.le_of_ble_eq_true rfl, Nat.le_of_ble_eq_true rfl⟩, Nat.le_of_ble_eq_true rfl, Nat.le_of_ble_eq_true rfl⟩ ?_
  refine G_putf (pc := 8) fl_X7_93 fp_X7_0 dX7_nack_8 mg_40 (Nat.le_of_ble_eq_true rfl) rfl rfl (mp_40_0 _) ?_
  refine G_name (fun S1_8 hS1_8 => ?_)
  have hVS1_8 : zWM Q S1_8 := by rw [hS1_8]; exact hV.s40_0 (by first | assumption | exact ⟨by omega, by omega⟩)
  have h0 : S1_8 (40, 0, 0, 0) 0 = 0 := by rw [hS1_8, zst_s]
  have h59 : S1_8 (59, 0, 0, 0) ((Q 4 g 0 * 4 + p) * 80 + o) = S (59, 0, 0, 0) ((Q 4 g 0 * 4 + p) * 80 + o) := by rw [hS1_8, zst_k _ _ _ _ (by simp)]
  have h701 : S1_8 (70, 0, 0, 0) (g * 80 + S1_8 (59, 0, 0, 0) ((Q 4 g 0 * 4 + p) * 80 + o)) = S (70, 0, 0, 0) (g * 80 + S (59, 0, 0, 0) ((Q 4 g 0 * 4 + p) * 80 + o)) := by rw [h59, hS1_8, zst_k _ _ _ _ (by simp)]
  refine G_aload_n (pc := 11) 0 0 dX7_nack_11 rfl rfl ?_
  refine G_getf (pc := 12) fl_X7_93 dX7_nack_12 mg_40 rfl ?_
  refine G_if_eq (pc := 15) 20 dX7_nack_15 (by decide) (by first | exact hS _ _ | exact hT _ _ | exact ⟨by omega, by omega⟩ | assumption | exact zWM.r (by assumption) _ _ (by decide)) (fun c15 => ?_) (fun c15 => ?_)
  · refine G_aload_n (pc := 20) 0 0 dX7_nack_20 rfl rfl ?_
    refine G_iload_n (pc := 21) 1 1 dX7_nack_21 rfl rfl ?_
    refine G_aload_n (pc := 22) 0 0 dX7_nack_22 rfl rfl ?_
    refine G_aload_n (pc := 23) 0 0 dX7_nack_23 rfl rfl ?_
    refine G_iload_n (pc := 24) 1 1 dX7_nack_24 rfl rfl ?_
    refine G_iload_n (pc := 25) 2 2 dX7_nack_25 rfl rfl ?_
    refine G_callVd (pc := 26) gk_X7_201 dX7_nack_26 mg_40 rfl (c_X7_whereOf (Q := Q) (by first | assumption | omega | exact ⟨by omega, by omega⟩ | exact hS _ _ | exact hT _ _) (by first | assumption | omega | exact ⟨by omega, by omega⟩ | exact hS _ _ | exact hT _ _)) rfl rfl (Nat.le_of_ble_eq_true rfl) ⟨⟨Nat.le_of_ble_eq_true rfl, Nat.le_of_ble_eq_true rfl⟩, Nat.le_of_ble_eq_true rfl, Nat.le_of_ble_eq_true rfl⟩ ?_
    refine G_iload_n (pc := 29) 3 3 dX7_nack_29 rfl rfl ?_
    refine G_callVd (pc := 30) gk_X7_113 dX7_nack_30 mg_40 rfl (c_X7_messageAt (Q := Q) (by first | assumption | omega | exact ⟨by omega, by omega⟩ | exact hS _ _ | exact hT _ _) (by first | assumption | omega | exact ⟨by omega, by omega⟩ | exact hS _ _ | exact hT _ _) (by first | assumption | omega | exact ⟨by omega, by omega⟩ | exact hS _ _ | exact hT _ _)) rfl rfl (Nat.le_of_ble_eq_true rfl) ⟨⟨Nat.le_of_ble_eq_true rfl, Nat.le_of_ble_eq_true rfl⟩, Nat.le_of_ble_eq_true rfl, Nat.le_of_ble_eq_true rfl⟩ ?_
    have hb30 := hVS1_8.b59 ((Q 4 g 0 * 4 + p) * 80 + o)
    refine G_callVdA (pc := 33) gk_X7_169 dX7_nack_33 mg_40 rfl (c_X7_nackNow (Q := Q) (by first | assumption | omega | exact ⟨by omega, by omega⟩ | exact hS _ _ | exact hT _ _) (by first | assumption | omega | exact ⟨by omega, by omega⟩ | exact hS _ _ | exact hT _ _) (by first | assumption | omega | exact ⟨by omega, by omega⟩ | exact hS _ _ | exact hT _ _) (by first | assumption | omega | exact ⟨by omega, by omega⟩ | exact hS _ _ | exact hT _ _) (by first | assumption | omega | exact ⟨by omega, by omega⟩ | exact hS _ _ | exact hT _ _)) rfl rfl (Nat.le_of_ble_eq_true rfl) ⟨⟨Nat.le_of_ble_eq_true rfl, Nat.le_of_ble_eq_true rfl⟩, (by show 0 + 2 ≤ 2; omega), (by show 0 + 10 ≤ 10; omega)⟩ ?_
    show G Γ _ _ _ _ _ _ (2) (10) _ _ _
    refine G_name (fun S2_33 hS2_33 => ?_)
    have hVS2_33 : zWM Q S2_33 := by rw [hS2_33]; exact mnk_W hVS1_8 (by exact ⟨by omega, by omega⟩)
    refine G_istore_e (pc := 36) (fun zw => [(4, .int (zI zw)), (0, .ref (ad (40, 0, 0, 0))), (1, .int (zI g)), (2, .int (zI p)), (3, .int (zI o))]) dX7_nack_36 (by decide) (fun _ => rfl) (fun v36 e36 => ?_)
    refine G_aload_n (pc := 38) 0 1 dX7_nack_38 rfl rfl ?_
    refine G_callVv (pc := 39) gk_X7_146 dX7_nack_39 mg_40 rfl (c_X7_settle (Q := Q) (by first | assumption | omega | exact ⟨by omega, by omega⟩ | exact hS _ _ | exact hT _ _) (by first | assumption | omega | exact ⟨by omega, by omega⟩ | exact hS _ _ | exact hT _ _)) rfl rfl (Nat.le_of_ble_eq_true rfl) ⟨⟨Nat.le_of_ble_eq_true rfl, Nat.le_of_ble_eq_true rfl⟩, Nat.le_of_ble_eq_true rfl, Nat.le_of_ble_eq_true rfl⟩ ?_
    refine G_name (fun S3_39 hS3_39 => ?_)
    have hVS3_39 : zWM Q S3_39 := by rw [hS3_39]; exact msa_W hVS2_33
    refine G_iload (pc := 42) 0 dX7_nack_42 rfl ?_
    exact G_iret_m (pc := 44) hF dX7_nack_44 ⟨Nat.le_of_ble_eq_true rfl, Nat.le_of_ble_eq_true rfl⟩ (by rw [e36, hS1_8]) (by rw [hS3_39, hS2_33, hS1_8])
  · exfalso
    omega
set_option maxHeartbeats 4000000 in
set_option maxRecDepth 100000 in
theorem c_X7_seek_x {l : Launch} {Δ : zDl} {ad : zK → Nat} {P : zP} {S : zS} {X : zMem} {Q : zP} {g p x : Int} (hV : zWM Q S) (h61 : Q 61 0 0 = P 61 0 0) (hrg : zR g) (hrp : zR p) (hn : ¬ ((0 ≤ g ∧ g < Q 3 0 0) ∧ (0 ≤ p ∧ p < Q 1 (Q 4 g 0) 0))) : zMn l Δ yX7_seek cX7_seek 9 (some .int) 9 0 0 [.ref (ad (40, 0, 0, 0)), .int (zI g), .int (zI p), .int (zI x)] ad (mm Δ ad P S X) (zD (some (.int (zI 0))) ad (mm Δ ad P (zst S (40, 0, 0, 0) 0 1) X)) := by
  refine zMn_of (by decide) (Nat.le_of_ble_eq_true rfl) (fun Γ hl hΔ hF => ?_)
  subst hl hΔ
  show G Γ _ _ _ RX7 _ _ _ _ _ [(0, .ref (ad (40, 0, 0, 0))), (1, .int (zI g)), (2, .int (zI p)), (3, .int (zI x))] []
  have hq := hV.q
  refine G_aload_n (pc := 0) 0 0 dX7_seek_0 rfl rfl ?_
  refine G_iconst (pc := 1) dX7_seek_1 ?_
  refine G_putf (pc := 2) fl_X7_93 fp_X7_0 dX7_seek_2 mg_40 (Nat.le_of_ble_eq_true rfl) rfl rfl (mp_40_0 _) ?_
  refine G_name (fun S1_2 hS1_2 => ?_)
  have hVS1_2 : zWM Q S1_2 := by rw [hS1_2]; exact hV.s40_0 (by first | assumption | exact ⟨by omega, by omega⟩)
  refine G_aload_n (pc := 5) 0 0 dX7_seek_5 rfl rfl ?_
  refine G_iload_n (pc := 6) 1 1 dX7_seek_6 rfl rfl ?_
  refine G_iload_n (pc := 7) 2 2 dX7_seek_7 rfl rfl ?_
  refine G_callVd (pc := 8) gk_X7_220 dX7_seek_8 mg_40 rfl (c_X7_isShare (Q := Q) (by first | assumption | omega | exact ⟨by omega, by omega⟩ | exact hS _ _ | exact hT _ _) (by first | assumption | omega | exact ⟨by omega, by omega⟩ | exact hS _ _ | exact hT _ _) (by first | assumption | omega | exact ⟨by omega, by omega⟩ | exact hS _ _ | exact hT _ _)) rfl rfl (Nat.le_of_ble_eq_true rfl) ⟨⟨Nat.le_of_ble_eq_true rfl, Nat.le_of_ble_eq_true rfl⟩, Nat.le_of_ble_eq_true rfl, Nat.le_of_ble_eq_true rfl⟩ ?_
  refine G_if_ne_b (pc := 11) 20 dX7_seek_11 (by decide) (fun c11 => ?_) (fun c11 => ?_)
  · exfalso
    exact hn c11
  · refine G_aload_n (pc := 14) 0 0 dX7_seek_14 rfl rfl ?_
    refine G_iconst (pc := 15) dX7_seek_15 ?_
    refine G_callVd (pc := 16) gk_X7_134 dX7_seek_16 mg_40 rfl (c_X7_no (Q := Q) (by first | assumption | omega | exact ⟨by omega, by omega⟩ | exact hS _ _ | exact hT _ _) (by first | assumption | omega | exact ⟨by omega, by omega⟩ | exact hS _ _ | exact hT _ _)) rfl rfl (Nat.le_of_ble_eq_true rfl) ⟨⟨Nat.le_of_ble_eq_true rfl, Nat.le_of_ble_eq_true rfl⟩, Nat.le_of_ble_eq_true rfl, Nat.le_of_ble_eq_true rfl⟩ ?_
    refine G_name (fun S2_16 hS2_16 => ?_)
    have hVS2_16 : zWM Q S2_16 := by rw [hS2_16]; exact hVS1_2.s40_0 (by first | assumption | exact ⟨by omega, by omega⟩)
    exact G_iret_m (pc := 19) hF dX7_seek_19 ⟨Nat.le_of_ble_eq_true rfl, Nat.le_of_ble_eq_true rfl⟩ (by first | rfl | omega | simp_all) (by rw [hS2_16, hS1_2, zst_zst])
set_option maxHeartbeats 4000000 in
set_option maxRecDepth 100000 in
theorem c_X7_seek_y {l : Launch} {Δ : zDl} {ad : zK → Nat} {P : zP} {S : zS} {X : zMem} {Q : zP} {g p x : Int} (hV : zWM Q S) (h61 : Q 61 0 0 = P 61 0 0) (hg : 0 ≤ g ∧ g < Q 3 0 0) (hp : 0 ≤ p ∧ p < Q 1 (Q 4 g 0) 0) (hrx : zR x) (hn : ¬ (S (47, 0, 0, 0) (Q 4 g 0 * 4 + p) ≤ x ∧ x ≤ Q 2 (Q 4 g 0) p)) : zMn l Δ yX7_seek cX7_seek 9 (some .int) 9 0 0 [.ref (ad (40, 0, 0, 0)), .int (zI g), .int (zI p), .int (zI x)] ad (mm Δ ad P S X) (zD (some (.int (zI 0))) ad (mm Δ ad P (zst S (40, 0, 0, 0) 0 2) X)) := by
  refine zMn_of (by decide) (Nat.le_of_ble_eq_true rfl) (fun Γ hl hΔ hF => ?_)
  subst hl hΔ
  show G Γ _ _ _ RX7 _ _ _ _ _ [(0, .ref (ad (40, 0, 0, 0))), (1, .int (zI g)), (2, .int (zI p)), (3, .int (zI x))] []
  have hq := hV.q
  have hqg := hV.qg hg
  have hqt := hV.qt hqg
  have hgt := hV.gt hg
  have hgn := hV.gn hg
  have hqm := hV.qm hqg hp
  have hen := hV.en hqg hp
  refine G_aload_n (pc := 0) 0 0 dX7_seek_0 rfl rfl ?_
  refine G_iconst (pc := 1) dX7_seek_1 ?_
  refine G_putf (pc := 2) fl_X7_93 fp_X7_0 dX7_seek_2 mg_40 (Nat.le_of_ble_eq_true rfl) rfl rfl (mp_40_0 _) ?_
  refine G_name (fun S1_2 hS1_2 => ?_)
  have hVS1_2 : zWM Q S1_2 := by rw [hS1_2]; exact hV.s40_0 (by first | assumption | exact ⟨by omega, by omega⟩)
  have hen5 := hVS1_2.en hqg hp
  have h47 : S1_2 (47, 0, 0, 0) (Q 4 g 0 * 4 + p) = S (47, 0, 0, 0) (Q 4 g 0 * 4 + p) := by rw [hS1_2, zst_k _ _ _ _ (by simp)]
  refine G_aload_n (pc := 5) 0 0 dX7_seek_5 rfl rfl ?_
  refine G_iload_n (pc := 6) 1 1 dX7_seek_6 rfl rfl ?_
  refine G_iload_n (pc := 7) 2 2 dX7_seek_7 rfl rfl ?_
  refine G_callVd (pc := 8) gk_X7_220 dX7_seek_8 mg_40 rfl (c_X7_isShare (Q := Q) (by first | assumption | omega | exact ⟨by omega, by omega⟩ | exact hS _ _ | exact hT _ _) (by first | assumption | omega | exact ⟨by omega, by omega⟩ | exact hS _ _ | exact hT _ _) (by first | assumption | omega | exact ⟨by omega, by omega⟩ | exact hS _ _ | exact hT _ _)) rfl rfl (Nat.le_of_ble_eq_true rfl) ⟨⟨Nat.le_of_ble_eq_true rfl, Nat.le_of_ble_eq_true rfl⟩, Nat.le_of_ble_eq_true rfl, Nat.le_of_ble_eq_true rfl⟩ ?_
  refine G_if_ne_b (pc := 11) 20 dX7_seek_11 (by decide) (fun c11 => ?_) (fun c11 => ?_)
  · refine G_aload_n (pc := 20) 0 0 dX7_seek_20 rfl rfl ?_
    refine G_iload_n (pc := 21) 1 1 dX7_seek_21 rfl rfl ?_
    refine G_iload_n (pc := 22) 2 2 dX7_seek_22 rfl rfl ?_
    refine G_callVd (pc := 23) gk_X7_201 dX7_seek_23 mg_40 rfl (c_X7_whereOf (Q := Q) (by first | assumption | omega | exact ⟨by omega, by omega⟩ | exact hS _ _ | exact hT _ _) (by first | assumption | omega | exact ⟨by omega, by omega⟩ | exact hS _ _ | exact hT _ _)) rfl rfl (Nat.le_of_ble_eq_true rfl) ⟨⟨Nat.le_of_ble_eq_true rfl, Nat.le_of_ble_eq_true rfl⟩, Nat.le_of_ble_eq_true rfl, Nat.le_of_ble_eq_true rfl⟩ ?_
    refine G_istore (pc := 26) [(4, .int (zI (Q 4 g 0 * 4 + p))), (0, .ref (ad (40, 0, 0, 0))), (1, .int (zI g)), (2, .int (zI p)), (3, .int (zI x))] dX7_seek_26 (by decide) rfl ?_
    refine G_iload_n (pc := 28) 3 4 dX7_seek_28 rfl rfl ?_
    refine G_aload_n (pc := 29) 0 1 dX7_seek_29 rfl rfl ?_
    refine G_getf (pc := 30) fl_X7_23 dX7_seek_30 mg_40 rfl ?_
    refine G_iload (pc := 33) 0 dX7_seek_33 rfl ?_
    refine G_iald (pc := 35) dX7_seek_35 mg_47 ⟨by omega, by omega, by omega, by omega⟩ ?_
    have hb35 := hVS1_2.b47 (Q 4 g 0 * 4 + p)
    refine G_aload_n (pc := 36) 0 1 dX7_seek_36 rfl rfl ?_
    refine G_getf (pc := 37) fl_X7_26 dX7_seek_37 mg_40 rfl ?_
    refine G_iload (pc := 40) 0 dX7_seek_40 rfl ?_
    refine G_iald (pc := 42) dX7_seek_42 mg_48 ⟨by omega, by omega, by omega, by omega⟩ ?_
    have hb42 := hVS1_2.b48 (Q 4 g 0 * 4 + p)
    refine G_callSd (pc := 43) gk_X7_99 dX7_seek_43 (c_X7_isWithin (by first | assumption | omega | exact ⟨by omega, by omega⟩ | exact hS _ _ | exact hT _ _) (by first | assumption | omega | exact ⟨by omega, by omega⟩ | exact hS _ _ | exact hT _ _) (by first | assumption | omega | exact ⟨by omega, by omega⟩ | exact hS _ _ | exact hT _ _)) rfl rfl (Nat.le_of_ble_eq_true rfl) ⟨⟨Nat.le_of_ble_eq_true rfl, Nat.le_of_ble_eq_true rfl⟩, Nat.le_of_ble_eq_true rfl, Nat.le_of_ble_eq_true rfl⟩ ?_
    refine G_if_ne_b (pc := 46) 55 dX7_seek_46 (by decide) (fun c46 => ?_) (fun c46 => ?_)
    · exfalso
      omega
    · refine G_aload_n (pc := 49) 0 1 dX7_seek_49 rfl rfl ?_
      refine G_iconst (pc := 50) dX7_seek_50 ?_
      refine G_callVd (pc := 51) gk_X7_134 dX7_seek_51 mg_40 rfl (c_X7_no (Q := Q) (by first | assumption | omega | exact ⟨by omega, by omega⟩ | exact hS _ _ | exact hT _ _) (by first | assumption | omega | exact ⟨by omega, by omega⟩ | exact hS _ _ | exact hT _ _)) rfl rfl (Nat.le_of_ble_eq_true rfl) ⟨⟨Nat.le_of_ble_eq_true rfl, Nat.le_of_ble_eq_true rfl⟩, Nat.le_of_ble_eq_true rfl, Nat.le_of_ble_eq_true rfl⟩ ?_
      refine G_name (fun S2_51 hS2_51 => ?_)
      have hVS2_51 : zWM Q S2_51 := by rw [hS2_51]; exact hVS1_2.s40_0 (by first | assumption | exact ⟨by omega, by omega⟩)
      exact G_iret_m (pc := 54) hF dX7_seek_54 ⟨Nat.le_of_ble_eq_true rfl, Nat.le_of_ble_eq_true rfl⟩ (by first | rfl | omega | simp_all) (by rw [hS2_51, hS1_2, zst_zst])
  · exfalso
    exact c11 ⟨hg, hp⟩
set_option maxHeartbeats 4000000 in
set_option maxRecDepth 100000 in
theorem c_X7_seek {l : Launch} {Δ : zDl} {ad : zK → Nat} {P : zP} {S : zS} {X : zMem} {Q : zP} {g p x : Int} (hV : zWM Q S) (h61 : Q 61 0 0 = P 61 0 0) (hg : 0 ≤ g ∧ g < Q 3 0 0) (hp : 0 ≤ p ∧ p < Q 1 (Q 4 g 0) 0) (hx : S (47, 0, 0, 0) (Q 4 g 0 * 4 + p) ≤ x ∧ x ≤ Q 2 (Q 4 g 0) p) : zMn l Δ yX7_seek cX7_seek 9 (some .int) 9 0 0 [.ref (ad (40, 0, 0, 0)), .int (zI g), .int (zI p), .int (zI x)] ad (mm Δ ad P S X) (zD (some (.int (zI ((zst S (40, 0, 0, 0) 0 0) (65, 0, 0, 0) (g * 4 + p))))) ad (mm Δ ad P (msa Q (msk Q g p x (zst S (40, 0, 0, 0) 0 0))) X)) := by
  refine zMn_of (by decide) (Nat.le_of_ble_eq_true rfl) (fun Γ hl hΔ hF => ?_)
  subst hl hΔ
  show G Γ _ _ _ RX7 _ _ _ _ _ [(0, .ref (ad (40, 0, 0, 0))), (1, .int (zI g)), (2, .int (zI p)), (3, .int (zI x))] []
  have hq := hV.q
  have hqg := hV.qg hg
  have hqt := hV.qt hqg
  have hgt := hV.gt hg
  have hgn := hV.gn hg
  have hqm := hV.qm hqg hp
  have hen := hV.en hqg hp
  have hs47 := hV.b47 (Q 4 g 0 * 4 + p)
  refine G_aload_n (pc := 0) 0 0 dX7_seek_0 rfl rfl ?_
  refine G_iconst (pc := 1) dX7_seek_1 ?_
  refine G_putf (pc := 2) fl_X7_93 fp_X7_0 dX7_seek_2 mg_40 (Nat.le_of_ble_eq_true rfl) rfl rfl (mp_40_0 _) ?_
  refine G_name (fun S1_2 hS1_2 => ?_)
  have hVS1_2 : zWM Q S1_2 := by rw [hS1_2]; exact hV.s40_0 (by first | assumption | exact ⟨by omega, by omega⟩)
  have hen5 := hVS1_2.en hqg hp
  have h47 : S1_2 (47, 0, 0, 0) (Q 4 g 0 * 4 + p) = S (47, 0, 0, 0) (Q 4 g 0 * 4 + p) := by rw [hS1_2, zst_k _ _ _ _ (by simp)]
  refine G_aload_n (pc := 5) 0 0 dX7_seek_5 rfl rfl ?_
  refine G_iload_n (pc := 6) 1 1 dX7_seek_6 rfl rfl ?_
  refine G_iload_n (pc := 7) 2 2 dX7_seek_7 rfl rfl ?_
  refine G_callVd (pc := 8) gk_X7_220 dX7_seek_8 mg_40 rfl (c_X7_isShare (Q := Q) (by first | assumption | omega | exact ⟨by omega, by omega⟩ | exact hS _ _ | exact hT _ _) (by first | assumption | omega | exact ⟨by omega, by omega⟩ | exact hS _ _ | exact hT _ _) (by first | assumption | omega | exact ⟨by omega, by omega⟩ | exact hS _ _ | exact hT _ _)) rfl rfl (Nat.le_of_ble_eq_true rfl) ⟨⟨Nat.le_of_ble_eq_true rfl, Nat.le_of_ble_eq_true rfl⟩, Nat.le_of_ble_eq_true rfl, Nat.le_of_ble_eq_true rfl⟩ ?_
  refine G_if_ne_b (pc := 11) 20 dX7_seek_11 (by decide) (fun c11 => ?_) (fun c11 => ?_)
  · refine G_aload_n (pc := 20) 0 0 dX7_seek_20 rfl rfl ?_
    refine G_iload_n (pc := 21) 1 1 dX7_seek_21 rfl rfl ?_
    refine G_iload_n (pc := 22) 2 2 dX7_seek_22 rfl rfl ?_
    refine G_callVd (pc := 23) gk_X7_201 dX7_seek_23 mg_40 rfl (c_X7_whereOf (Q := Q) (by first | assumption | omega | exact ⟨by omega, by omega⟩ | exact hS _ _ | exact hT _ _) (by first | assumption | omega | exact ⟨by omega, by omega⟩ | exact hS _ _ | exact hT _ _)) rfl rfl (Nat.le_of_ble_eq_true rfl) ⟨⟨Nat.le_of_ble_eq_true rfl, Nat.le_of_ble_eq_true rfl⟩, Nat.le_of_ble_eq_true rfl, Nat.le_of_ble_eq_true rfl⟩ ?_
    refine G_istore (pc := 26) [(4, .int (zI (Q 4 g 0 * 4 + p))), (0, .ref (ad (40, 0, 0, 0))), (1, .int (zI g)), (2, .int (zI p)), (3, .int (zI x))] dX7_seek_26 (by decide) rfl ?_
    refine G_iload_n (pc := 28) 3 4 dX7_seek_28 rfl rfl ?_
    refine G_aload_n (pc := 29) 0 1 dX7_seek_29 rfl rfl ?_
    refine G_getf (pc := 30) fl_X7_23 dX7_seek_30 mg_40 rfl ?_
    refine G_iload (pc := 33) 0 dX7_seek_33 rfl ?_
    refine G_iald (pc := 35) dX7_seek_35 mg_47 ⟨by omega, by omega, by omega, by omega⟩ ?_
    have hb35 := hVS1_2.b47 (Q 4 g 0 * 4 + p)
    refine G_aload_n (pc := 36) 0 1 dX7_seek_36 rfl rfl ?_
    refine G_getf (pc := 37) fl_X7_26 dX7_seek_37 mg_40 rfl ?_
    refine G_iload (pc := 40) 0 dX7_seek_40 rfl ?_
    refine G_iald (pc := 42) dX7_seek_42 mg_48 ⟨by omega, by omega, by omega, by omega⟩ ?_
    have hb42 := hVS1_2.b48 (Q 4 g 0 * 4 + p)
    refine G_callSd (pc := 43) gk_X7_99 dX7_seek_43 (c_X7_isWithin (by first | assumption | omega | exact ⟨by omega, by omega⟩ | exact hS _ _ | exact hT _ _) (by first | assumption | omega | exact ⟨by omega, by omega⟩ | exact hS _ _ | exact hT _ _) (by first | assumption | omega | exact ⟨by omega, by omega⟩ | exact hS _ _ | exact hT _ _)) rfl rfl (Nat.le_of_ble_eq_true rfl) ⟨⟨Nat.le_of_ble_eq_true rfl, Nat.le_of_ble_eq_true rfl⟩, Nat.le_of_ble_eq_true rfl, Nat.le_of_ble_eq_true rfl⟩ ?_
    refine G_if_ne_b (pc := 46) 55 dX7_seek_46 (by decide) (fun c46 => ?_) (fun c46 => ?_)
    · refine G_iload_n (pc := 55) 1 2 dX7_seek_55 rfl rfl ?_
      refine G_iconst (pc := 56) dX7_seek_56 ?_
      refine G_imul (pc := 57) dX7_seek_57 ?_
      refine G_iload_n (pc := 58) 2 3 dX7_seek_58 rfl rfl ?_
      refine G_iadd (pc := 59) dX7_seek_59 ?_
      refine G_istore (pc := 60) [(5, .int (zI ((g * 4) + p))), (4, .int (zI (Q 4 g 0 * 4 + p))), (0, .ref (ad (40, 0, 0, 0))), (1, .int (zI g)), (2, .int (zI p)), (3, .int (zI x))] dX7_seek_60 (by decide) rfl ?_
      refine G_aload_n (pc := 62) 0 2 dX7_seek_62 rfl rfl ?_
      refine G_getf (pc := 63) fl_X7_69 dX7_seek_63 mg_40 rfl ?_
      refine G_iload (pc := 66) 0 dX7_seek_66 rfl ?_
      refine G_iald (pc := 68) dX7_seek_68 mg_65 ⟨by omega, by omega, by omega, by omega⟩ ?_
      have hb68 := hVS1_2.b65 ((g * 4) + p)
      refine G_istore_e (pc := 69) (fun zw => [(6, .int (zI zw)), (5, .int (zI ((g * 4) + p))), (4, .int (zI (Q 4 g 0 * 4 + p))), (0, .ref (ad (40, 0, 0, 0))), (1, .int (zI g)), (2, .int (zI p)), (3, .int (zI x))]) dX7_seek_69 (by decide) (fun _ => rfl) (fun v69 e69 => ?_)
      refine G_iconst (pc := 71) dX7_seek_71 ?_
      refine G_istore_e (pc := 72) (fun zw => [(7, .int (zI zw)), (6, .int (zI v69)), (5, .int (zI ((g * 4) + p))), (4, .int (zI (Q 4 g 0 * 4 + p))), (0, .ref (ad (40, 0, 0, 0))), (1, .int (zI g)), (2, .int (zI p)), (3, .int (zI x))]) dX7_seek_72 (by decide) (fun _ => rfl) (fun v72 e72 => ?_)
      have L74 : ∀ (n : Nat) (o : Int) (T : zS), ((0 ≤ o ∧ o ≤ Q 2 (Q 4 g 0) p) ∧ lp (msk1 Q g p x) o (Q 2 (Q 4 g 0) p) T = lp (msk1 Q g p x) 0 (Q 2 (Q 4 g 0) p) (zst S (40, 0, 0, 0) 0 0) ∧ zWM Q T) → (Q 2 (Q 4 g 0) p - o).toNat < n → G Γ (zRm 9 0 0) cX7_seek 9 RX7 ad (mm (z_d Γ) ad P T X) 0 0 74 [(0, .ref (ad (40, 0, 0, 0))), (1, .int (zI g)), (2, .int (zI p)), (3, .int (zI x)), (4, .int (zI (Q 4 g 0 * 4 + p))), (5, .int (zI ((g * 4) + p))), (6, .int (zI v69)), (7, .int (zI o))] [] := by
        intro n
        induction n with
        | zero => intro o T _ hn; omega
        | succ n ih74 =>
          intro o T hi74 hn74
          obtain ⟨ho0, hz, hTV⟩ := hi74
          have hen9 := hTV.en hqg hp
          refine G_iload (pc := 74) 7 dX7_seek_74 rfl ?_
          refine G_aload_n (pc := 76) 0 0 dX7_seek_76 rfl rfl ?_
          refine G_getf (pc := 77) fl_X7_26 dX7_seek_77 mg_40 rfl ?_
          refine G_iload (pc := 80) 4 dX7_seek_80 rfl ?_
          refine G_iald (pc := 82) dX7_seek_82 mg_48 ⟨by omega, by omega, by omega, by omega⟩ ?_
          have hb82 := hTV.b48 (Q 4 g 0 * 4 + p)
          refine G_icmp_ge (pc := 83) 143 dX7_seek_83 (by decide) (by first | exact hS _ _ | exact hT _ _ | exact ⟨by omega, by omega⟩ | assumption | exact zWM.r (by assumption) _ _ (by decide)) (by first | exact hS _ _ | exact hT _ _ | exact ⟨by omega, by omega⟩ | assumption | exact zWM.r (by assumption) _ _ (by decide)) (fun c83 => ?_) (fun c83 => ?_)
          · have hz8 := hz
            rw [lp_end (a := o) (by omega)] at hz8
            refine G_aload_n (pc := 143) 0 0 dX7_seek_143 rfl rfl ?_
            refine G_getf (pc := 144) fl_X7_69 dX7_seek_144 mg_40 rfl ?_
            refine G_iload (pc := 147) 5 dX7_seek_147 rfl ?_
            refine G_iload_n (pc := 149) 3 3 dX7_seek_149 rfl rfl ?_
            refine G_iast (pc := 150) dX7_seek_150 mg_65 ⟨by omega, by omega, by omega, by omega⟩ (mp_65 _ _) ?_
            refine G_name (fun S2_150 hS2_150 => ?_)
            have hVS2_150 : zWM Q S2_150 := by rw [hS2_150]; exact hTV.s65 ⟨by omega, by omega⟩
            refine G_aload_n (pc := 151) 0 0 dX7_seek_151 rfl rfl ?_
            refine G_getf (pc := 152) fl_X7_72 dX7_seek_152 mg_40 rfl ?_
            refine G_iload (pc := 155) 5 dX7_seek_155 rfl ?_
            refine G_iload_n (pc := 157) 3 3 dX7_seek_157 rfl rfl ?_
            refine G_iast (pc := 158) dX7_seek_158 mg_66 ⟨by omega, by omega, by omega, by omega⟩ (mp_66 _ _) ?_
            refine G_name (fun S3_158 hS3_158 => ?_)
            have hVS3_158 : zWM Q S3_158 := by rw [hS3_158]; exact hVS2_150.s66 ⟨by omega, by omega⟩
            refine G_aload_n (pc := 159) 0 0 dX7_seek_159 rfl rfl ?_
            refine G_callVv (pc := 160) gk_X7_146 dX7_seek_160 mg_40 rfl (c_X7_settle (Q := Q) (by first | assumption | omega | exact ⟨by omega, by omega⟩ | exact hS _ _ | exact hT _ _) (by first | assumption | omega | exact ⟨by omega, by omega⟩ | exact hS _ _ | exact hT _ _)) rfl rfl (Nat.le_of_ble_eq_true rfl) ⟨⟨Nat.le_of_ble_eq_true rfl, Nat.le_of_ble_eq_true rfl⟩, Nat.le_of_ble_eq_true rfl, Nat.le_of_ble_eq_true rfl⟩ ?_
            refine G_name (fun S4_160 hS4_160 => ?_)
            have hVS4_160 : zWM Q S4_160 := by rw [hS4_160]; exact msa_W hVS3_158
            refine G_iload (pc := 163) 6 dX7_seek_163 rfl ?_
            exact G_iret_m (pc := 165) hF dX7_seek_165 ⟨Nat.le_of_ble_eq_true rfl, Nat.le_of_ble_eq_true rfl⟩ (by rw [e69, hS1_2]) (by rw [hS4_160]; rw [hS3_158, hS2_150]; unfold msk; rw [← hz8])
          · refine G_aload_n (pc := 86) 0 0 dX7_seek_86 rfl rfl ?_
            refine G_getf (pc := 87) fl_X7_81 dX7_seek_87 mg_40 rfl ?_
            refine G_iload_n (pc := 90) 1 1 dX7_seek_90 rfl rfl ?_
            refine G_bipush (pc := 91) dX7_seek_91 (by decide) ?_
            refine G_imul (pc := 93) dX7_seek_93 ?_
            refine G_aload_n (pc := 94) 0 0 dX7_seek_94 rfl rfl ?_
            refine G_iload (pc := 95) 4 dX7_seek_95 rfl ?_
            refine G_iload (pc := 97) 7 dX7_seek_97 rfl ?_
            refine G_callVd (pc := 99) gk_X7_113 dX7_seek_99 mg_40 rfl (c_X7_messageAt (Q := Q) (by first | assumption | omega | exact ⟨by omega, by omega⟩ | exact hS _ _ | exact hT _ _) (by first | assumption | omega | exact ⟨by omega, by omega⟩ | exact hS _ _ | exact hT _ _) (by first | assumption | omega | exact ⟨by omega, by omega⟩ | exact hS _ _ | exact hT _ _)) rfl rfl (Nat.le_of_ble_eq_true rfl) ⟨⟨Nat.le_of_ble_eq_true rfl, Nat.le_of_ble_eq_true rfl⟩, Nat.le_of_ble_eq_true rfl, Nat.le_of_ble_eq_true rfl⟩ ?_
            have hb99 := hTV.b59 ((Q 4 g 0 * 4 + p) * 80 + o)
            refine G_iadd (pc := 102) dX7_seek_102 ?_
            refine G_iald (pc := 103) dX7_seek_103 mg_69 ⟨by omega, by omega, by omega, by omega⟩ ?_
            have hb103 := hTV.b69 ((g * 80) + (T (59, 0, 0, 0) ((Q 4 g 0 * 4 + p) * 80 + o)))
            refine G_istore (pc := 104) [(8, .int (zI (T (69, 0, 0, 0) ((g * 80) + (T (59, 0, 0, 0) ((Q 4 g 0 * 4 + p) * 80 + o)))))), (0, .ref (ad (40, 0, 0, 0))), (1, .int (zI g)), (2, .int (zI p)), (3, .int (zI x)), (4, .int (zI (Q 4 g 0 * 4 + p))), (5, .int (zI ((g * 4) + p))), (6, .int (zI v69)), (7, .int (zI o))] dX7_seek_104 (by decide) rfl ?_
            refine G_iload (pc := 106) 8 dX7_seek_106 rfl ?_
            refine G_iload_n (pc := 108) 3 4 dX7_seek_108 rfl rfl ?_
            refine G_icmp_ge (pc := 109) 124 dX7_seek_109 (by decide) (by first | exact hS _ _ | exact hT _ _ | exact ⟨by omega, by omega⟩ | assumption | exact zWM.r (by assumption) _ _ (by decide)) (by first | exact hS _ _ | exact hT _ _ | exact ⟨by omega, by omega⟩ | assumption | exact zWM.r (by assumption) _ _ (by decide)) (fun c109 => ?_) (fun c109 => ?_)
            · have hc9 : x ≤ o ∨ mu T (g * 80 + T (59, 0, 0, 0) ((Q 4 g 0 * 4 + p) * 80 + o)) := by omega
              refine G_aload_n (pc := 124) 0 1 dX7_seek_124 rfl rfl ?_
              refine G_iload_n (pc := 125) 1 2 dX7_seek_125 rfl rfl ?_
              refine G_aload_n (pc := 126) 0 1 dX7_seek_126 rfl rfl ?_
              refine G_iload (pc := 127) 5 dX7_seek_127 rfl ?_
              refine G_iload (pc := 129) 8 dX7_seek_129 rfl ?_
              refine G_callVd (pc := 131) gk_X7_113 dX7_seek_131 mg_40 rfl (c_X7_messageAt (Q := Q) (by first | assumption | omega | exact ⟨by omega, by omega⟩ | exact hS _ _ | exact hT _ _) (by first | assumption | omega | exact ⟨by omega, by omega⟩ | exact hS _ _ | exact hT _ _) (by first | assumption | omega | exact ⟨by omega, by omega⟩ | exact hS _ _ | exact hT _ _)) rfl rfl (Nat.le_of_ble_eq_true rfl) ⟨⟨Nat.le_of_ble_eq_true rfl, Nat.le_of_ble_eq_true rfl⟩, Nat.le_of_ble_eq_true rfl, Nat.le_of_ble_eq_true rfl⟩ ?_
              have hb131 := hTV.b59 ((Q 4 g 0 * 4 + p) * 80 + o)
              refine G_callVv (pc := 134) gk_X7_130 dX7_seek_134 mg_40 rfl (c_X7_forget (Q := Q) (by first | assumption | omega | exact ⟨by omega, by omega⟩ | exact hS _ _ | exact hT _ _) (by first | assumption | omega | exact ⟨by omega, by omega⟩ | exact hS _ _ | exact hT _ _) (by first | assumption | omega | exact ⟨by omega, by omega⟩ | exact hS _ _ | exact hT _ _)) rfl rfl (Nat.le_of_ble_eq_true rfl) ⟨⟨Nat.le_of_ble_eq_true rfl, Nat.le_of_ble_eq_true rfl⟩, Nat.le_of_ble_eq_true rfl, Nat.le_of_ble_eq_true rfl⟩ ?_
              refine G_name (fun S5_134 hS5_134 => ?_)
              have hVS5_134 : zWM Q S5_134 := by rw [hS5_134]; exact mfg_W hTV
              first | (have hz7 : msk1 Q g p x o T = S5_134 := by rw [hS5_134]; exact if_pos hc9) | (have hz7 : msk1 Q g p x o T = S5_134 := if_neg (fun h => by omega))
              refine G_iinc_e (pc := 137) 8 (fun zw => [(7, .int (zI zw)), (8, .int (zI (T (69, 0, 0, 0) ((g * 80) + (T (59, 0, 0, 0) ((Q 4 g 0 * 4 + p) * 80 + o)))))), (0, .ref (ad (40, 0, 0, 0))), (1, .int (zI g)), (2, .int (zI p)), (3, .int (zI x)), (4, .int (zI (Q 4 g 0 * 4 + p))), (5, .int (zI ((g * 4) + p))), (6, .int (zI v69))]) dX7_seek_137 rfl (by decide) (fun _ => rfl) (fun v137 e137 => ?_)
              refine G_goto (pc := 140) 74 dX7_seek_140 (by decide) ?_
              refine G_perm (lv' := [(0, .ref (ad (40, 0, 0, 0))), (1, .int (zI g)), (2, .int (zI p)), (3, .int (zI x)), (4, .int (zI (Q 4 g 0 * 4 + p))), (5, .int (zI ((g * 4) + p))), (6, .int (zI v69)), (7, .int (zI v137))]) [2, 3, 4, 5, 6, 7, 8, 0] rfl ?_
              exact ih74 v137 S5_134 ⟨by omega, by rw [e137, ← hz, lp_step (a := o) (n := Q 2 (Q 4 g 0) p) (by omega), hz7], by assumption⟩ (by omega)
            · refine G_iload (pc := 112) 0 dX7_seek_112 rfl ?_
              refine G_iconst (pc := 114) dX7_seek_114 ?_
              refine G_icmp_eq (pc := 115) 124 dX7_seek_115 (by decide) (by first | exact hS _ _ | exact hT _ _ | exact ⟨by omega, by omega⟩ | assumption | exact zWM.r (by assumption) _ _ (by decide)) (by first | exact hS _ _ | exact hT _ _ | exact ⟨by omega, by omega⟩ | assumption | exact zWM.r (by assumption) _ _ (by decide)) (fun c115 => ?_) (fun c115 => ?_)
              · have hc9 : x ≤ o ∨ mu T (g * 80 + T (59, 0, 0, 0) ((Q 4 g 0 * 4 + p) * 80 + o)) := by omega
                refine G_aload_n (pc := 124) 0 1 dX7_seek_124 rfl rfl ?_
                refine G_iload_n (pc := 125) 1 2 dX7_seek_125 rfl rfl ?_
                refine G_aload_n (pc := 126) 0 1 dX7_seek_126 rfl rfl ?_
                refine G_iload (pc := 127) 5 dX7_seek_127 rfl ?_
                refine G_iload (pc := 129) 8 dX7_seek_129 rfl ?_
                refine G_callVd (pc := 131) gk_X7_113 dX7_seek_131 mg_40 rfl (c_X7_messageAt (Q := Q) (by first | assumption | omega | exact ⟨by omega, by omega⟩ | exact hS _ _ | exact hT _ _) (by first | assumption | omega | exact ⟨by omega, by omega⟩ | exact hS _ _ | exact hT _ _) (by first | assumption | omega | exact ⟨by omega, by omega⟩ | exact hS _ _ | exact hT _ _)) rfl rfl (Nat.le_of_ble_eq_true rfl) ⟨⟨Nat.le_of_ble_eq_true rfl, Nat.le_of_ble_eq_true rfl⟩, Nat.le_of_ble_eq_true rfl, Nat.le_of_ble_eq_true rfl⟩ ?_
                have hb131 := hTV.b59 ((Q 4 g 0 * 4 + p) * 80 + o)
                refine G_callVv (pc := 134) gk_X7_130 dX7_seek_134 mg_40 rfl (c_X7_forget (Q := Q) (by first | assumption | omega | exact ⟨by omega, by omega⟩ | exact hS _ _ | exact hT _ _) (by first | assumption | omega | exact ⟨by omega, by omega⟩ | exact hS _ _ | exact hT _ _) (by first | assumption | omega | exact ⟨by omega, by omega⟩ | exact hS _ _ | exact hT _ _)) rfl rfl (Nat.le_of_ble_eq_true rfl) ⟨⟨Nat.le_of_ble_eq_true rfl, Nat.le_of_ble_eq_true rfl⟩, Nat.le_of_ble_eq_true rfl, Nat.le_of_ble_eq_true rfl⟩ ?_
                refine G_name (fun S6_134 hS6_134 => ?_)
                have hVS6_134 : zWM Q S6_134 := by rw [hS6_134]; exact mfg_W hTV
                first | (have hz7 : msk1 Q g p x o T = S6_134 := by rw [hS6_134]; exact if_pos hc9) | (have hz7 : msk1 Q g p x o T = S6_134 := if_neg (fun h => by omega))
                refine G_iinc_e (pc := 137) 8 (fun zw => [(7, .int (zI zw)), (8, .int (zI (T (69, 0, 0, 0) ((g * 80) + (T (59, 0, 0, 0) ((Q 4 g 0 * 4 + p) * 80 + o)))))), (0, .ref (ad (40, 0, 0, 0))), (1, .int (zI g)), (2, .int (zI p)), (3, .int (zI x)), (4, .int (zI (Q 4 g 0 * 4 + p))), (5, .int (zI ((g * 4) + p))), (6, .int (zI v69))]) dX7_seek_137 rfl (by decide) (fun _ => rfl) (fun v137 e137 => ?_)
                refine G_goto (pc := 140) 74 dX7_seek_140 (by decide) ?_
                refine G_perm (lv' := [(0, .ref (ad (40, 0, 0, 0))), (1, .int (zI g)), (2, .int (zI p)), (3, .int (zI x)), (4, .int (zI (Q 4 g 0 * 4 + p))), (5, .int (zI ((g * 4) + p))), (6, .int (zI v69)), (7, .int (zI v137))]) [2, 3, 4, 5, 6, 7, 8, 0] rfl ?_
                exact ih74 v137 S6_134 ⟨by omega, by rw [e137, ← hz, lp_step (a := o) (n := Q 2 (Q 4 g 0) p) (by omega), hz7], by assumption⟩ (by omega)
              · refine G_iload (pc := 118) 0 dX7_seek_118 rfl ?_
                refine G_iconst (pc := 120) dX7_seek_120 ?_
                refine G_icmp_ne (pc := 121) 137 dX7_seek_121 (by decide) (by first | exact hS _ _ | exact hT _ _ | exact ⟨by omega, by omega⟩ | assumption | exact zWM.r (by assumption) _ _ (by decide)) (by first | exact hS _ _ | exact hT _ _ | exact ⟨by omega, by omega⟩ | assumption | exact zWM.r (by assumption) _ _ (by decide)) (fun c121 => ?_) (fun c121 => ?_)
                · first | (have hz7 : msk1 Q g p x o T = T := by rw [hT]; exact if_pos hc9) | (have hz7 : msk1 Q g p x o T = T := if_neg (fun h => by omega))
                  refine G_iinc_e (pc := 137) 8 (fun zw => [(7, .int (zI zw)), (8, .int (zI (T (69, 0, 0, 0) ((g * 80) + (T (59, 0, 0, 0) ((Q 4 g 0 * 4 + p) * 80 + o)))))), (0, .ref (ad (40, 0, 0, 0))), (1, .int (zI g)), (2, .int (zI p)), (3, .int (zI x)), (4, .int (zI (Q 4 g 0 * 4 + p))), (5, .int (zI ((g * 4) + p))), (6, .int (zI v69))]) dX7_seek_137 rfl (by decide) (fun _ => rfl) (fun v137 e137 => ?_)
                  refine G_goto (pc := 140) 74 dX7_seek_140 (by decide) ?_
                  refine G_perm (lv' := [(0, .ref (ad (40, 0, 0, 0))), (1, .int (zI g)), (2, .int (zI p)), (3, .int (zI x)), (4, .int (zI (Q 4 g 0 * 4 + p))), (5, .int (zI ((g * 4) + p))), (6, .int (zI v69)), (7, .int (zI v137))]) [2, 3, 4, 5, 6, 7, 8, 0] rfl ?_
                  exact ih74 v137 T ⟨by omega, by rw [e137, ← hz, lp_step (a := o) (n := Q 2 (Q 4 g 0) p) (by omega), hz7], by assumption⟩ (by omega)
                · have hc9 : x ≤ o ∨ mu T (g * 80 + T (59, 0, 0, 0) ((Q 4 g 0 * 4 + p) * 80 + o)) := by omega
                  refine G_aload_n (pc := 124) 0 1 dX7_seek_124 rfl rfl ?_
                  refine G_iload_n (pc := 125) 1 2 dX7_seek_125 rfl rfl ?_
                  refine G_aload_n (pc := 126) 0 1 dX7_seek_126 rfl rfl ?_
                  refine G_iload (pc := 127) 5 dX7_seek_127 rfl ?_
                  refine G_iload (pc := 129) 8 dX7_seek_129 rfl ?_
                  refine G_callVd (pc := 131) gk_X7_113 dX7_seek_131 mg_40 rfl (c_X7_messageAt (Q := Q) (by first | assumption | omega | exact ⟨by omega, by omega⟩ | exact hS _ _ | exact hT _ _) (by first | assumption | omega | exact ⟨by omega, by omega⟩ | exact hS _ _ | exact hT _ _) (by first | assumption | omega | exact ⟨by omega, by omega⟩ | exact hS _ _ | exact hT _ _)) rfl rfl (Nat.le_of_ble_eq_true rfl) ⟨⟨Nat.le_of_ble_eq_true rfl, Nat.le_of_ble_eq_true rfl⟩, Nat.le_of_ble_eq_true rfl, Nat.le_of_ble_eq_true rfl⟩ ?_
                  have hb131 := hTV.b59 ((Q 4 g 0 * 4 + p) * 80 + o)
                  refine G_callVv (pc := 134) gk_X7_130 dX7_seek_134 mg_40 rfl (c_X7_forget (Q := Q) (by first | assumption | omega | exact ⟨by omega, by omega⟩ | exact hS _ _ | exact hT _ _) (by first | assumption | omega | exact ⟨by omega, by omega⟩ | exact hS _ _ | exact hT _ _) (by first | assumption | omega | exact ⟨by omega, by omega⟩ | exact hS _ _ | exact hT _ _)) rfl rfl (Nat.le_of_ble_eq_true rfl) ⟨⟨Nat.le_of_ble_eq_true rfl, Nat.le_of_ble_eq_true rfl⟩, Nat.le_of_ble_eq_true rfl, Nat.le_of_ble_eq_true rfl⟩ ?_
                  refine G_name (fun S7_134 hS7_134 => ?_)
                  have hVS7_134 : zWM Q S7_134 := by rw [hS7_134]; exact mfg_W hTV
                  first | (have hz7 : msk1 Q g p x o T = S7_134 := by rw [hS7_134]; exact if_pos hc9) | (have hz7 : msk1 Q g p x o T = S7_134 := if_neg (fun h => by omega))
                  refine G_iinc_e (pc := 137) 8 (fun zw => [(7, .int (zI zw)), (8, .int (zI (T (69, 0, 0, 0) ((g * 80) + (T (59, 0, 0, 0) ((Q 4 g 0 * 4 + p) * 80 + o)))))), (0, .ref (ad (40, 0, 0, 0))), (1, .int (zI g)), (2, .int (zI p)), (3, .int (zI x)), (4, .int (zI (Q 4 g 0 * 4 + p))), (5, .int (zI ((g * 4) + p))), (6, .int (zI v69))]) dX7_seek_137 rfl (by decide) (fun _ => rfl) (fun v137 e137 => ?_)
                  refine G_goto (pc := 140) 74 dX7_seek_140 (by decide) ?_
                  refine G_perm (lv' := [(0, .ref (ad (40, 0, 0, 0))), (1, .int (zI g)), (2, .int (zI p)), (3, .int (zI x)), (4, .int (zI (Q 4 g 0 * 4 + p))), (5, .int (zI ((g * 4) + p))), (6, .int (zI v69)), (7, .int (zI v137))]) [2, 3, 4, 5, 6, 7, 8, 0] rfl ?_
                  exact ih74 v137 S7_134 ⟨by omega, by rw [e137, ← hz, lp_step (a := o) (n := Q 2 (Q 4 g 0) p) (by omega), hz7], by assumption⟩ (by omega)
      refine G_perm (lv' := [(0, .ref (ad (40, 0, 0, 0))), (1, .int (zI g)), (2, .int (zI p)), (3, .int (zI x)), (4, .int (zI (Q 4 g 0 * 4 + p))), (5, .int (zI ((g * 4) + p))), (6, .int (zI v69)), (7, .int (zI v72))]) [4, 5, 6, 7, 3, 2, 1, 0] rfl ?_
      exact L74 _ v72 S1_2 ⟨by omega, by rw [e72, hS1_2], hVS1_2⟩ (Nat.lt_succ_self _)
    · exfalso
      omega
  · exfalso
    exact c11 ⟨hg, hp⟩
set_option maxHeartbeats 4000000 in
set_option maxRecDepth 100000 in
theorem c_X7_end_x {l : Launch} {Δ : zDl} {ad : zK → Nat} {P : zP} {S : zS} {X : zMem} {Q : zP} {x b : Int} (hV : zWM Q S) (h61 : Q 61 0 0 = P 61 0 0) (hrx : zR x) (hrb : zR b) (hn : ¬ (0 ≤ x ∧ x < 4)) : zMn l Δ yX7_end cX7_end 6 (some .int) 9 0 0 [.ref (ad (40, 0, 0, 0)), .int (zI x), .int (zI b)] ad (mm Δ ad P S X) (zD (some (.int (zI 0))) ad (mm Δ ad P (zst S (40, 0, 0, 0) 0 1) X)) := by
  refine zMn_of (by decide) (Nat.le_of_ble_eq_true rfl) (fun Γ hl hΔ hF => ?_)
  subst hl hΔ
  show G Γ _ _ _ RX7 _ _ _ _ _ [(0, .ref (ad (40, 0, 0, 0))), (1, .int (zI x)), (2, .int (zI b))] []
  have hq := hV.q
  refine G_aload_n (pc := 0) 0 0 dX7_end_0 rfl rfl ?_
  refine G_iconst (pc := 1) dX7_end_1 ?_
  refine G_putf (pc := 2) fl_X7_93 fp_X7_0 dX7_end_2 mg_40 (Nat.le_of_ble_eq_true rfl) rfl rfl (mp_40_0 _) ?_
  refine G_name (fun S1_2 hS1_2 => ?_)
  have hVS1_2 : zWM Q S1_2 := by rw [hS1_2]; exact hV.s40_0 (by first | assumption | exact ⟨by omega, by omega⟩)
  refine G_iload_n (pc := 5) 1 1 dX7_end_5 rfl rfl ?_
  refine G_callSd (pc := 6) gk_X7_137 dX7_end_6 (c_X7_isProducer (by first | assumption | omega | exact ⟨by omega, by omega⟩ | exact hS _ _ | exact hT _ _)) rfl rfl (Nat.le_of_ble_eq_true rfl) ⟨⟨Nat.le_of_ble_eq_true rfl, Nat.le_of_ble_eq_true rfl⟩, Nat.le_of_ble_eq_true rfl, Nat.le_of_ble_eq_true rfl⟩ ?_
  refine G_if_ne_b (pc := 9) 18 dX7_end_9 (by decide) (fun c9 => ?_) (fun c9 => ?_)
  · exfalso
    omega
  · refine G_aload_n (pc := 12) 0 0 dX7_end_12 rfl rfl ?_
    refine G_iconst (pc := 13) dX7_end_13 ?_
    refine G_callVd (pc := 14) gk_X7_134 dX7_end_14 mg_40 rfl (c_X7_no (Q := Q) (by first | assumption | omega | exact ⟨by omega, by omega⟩ | exact hS _ _ | exact hT _ _) (by first | assumption | omega | exact ⟨by omega, by omega⟩ | exact hS _ _ | exact hT _ _)) rfl rfl (Nat.le_of_ble_eq_true rfl) ⟨⟨Nat.le_of_ble_eq_true rfl, Nat.le_of_ble_eq_true rfl⟩, Nat.le_of_ble_eq_true rfl, Nat.le_of_ble_eq_true rfl⟩ ?_
    refine G_name (fun S2_14 hS2_14 => ?_)
    have hVS2_14 : zWM Q S2_14 := by rw [hS2_14]; exact hVS1_2.s40_0 (by first | assumption | exact ⟨by omega, by omega⟩)
    exact G_iret_m (pc := 17) hF dX7_end_17 ⟨Nat.le_of_ble_eq_true rfl, Nat.le_of_ble_eq_true rfl⟩ (by first | rfl | omega | simp_all) (by rw [hS2_14, hS1_2, zst_zst])
set_option maxHeartbeats 4000000 in
set_option maxRecDepth 100000 in
theorem c_X7_end_y {l : Launch} {Δ : zDl} {ad : zK → Nat} {P : zP} {S : zS} {X : zMem} {Q : zP} {x b : Int} (hV : zWM Q S) (h61 : Q 61 0 0 = P 61 0 0) (hx : 0 ≤ x ∧ x < 4) (hrb : zR b) (h1 : S (62, 0, 0, 0) x = -1) : zMn l Δ yX7_end cX7_end 6 (some .int) 9 0 0 [.ref (ad (40, 0, 0, 0)), .int (zI x), .int (zI b)] ad (mm Δ ad P S X) (zD (some (.int (zI 0))) ad (mm Δ ad P (zst S (40, 0, 0, 0) 0 2) X)) := by
  refine zMn_of (by decide) (Nat.le_of_ble_eq_true rfl) (fun Γ hl hΔ hF => ?_)
  subst hl hΔ
  show G Γ _ _ _ RX7 _ _ _ _ _ [(0, .ref (ad (40, 0, 0, 0))), (1, .int (zI x)), (2, .int (zI b))] []
  have hq := hV.q
  refine G_aload_n (pc := 0) 0 0 dX7_end_0 rfl rfl ?_
  refine G_iconst (pc := 1) dX7_end_1 ?_
  refine G_putf (pc := 2) fl_X7_93 fp_X7_0 dX7_end_2 mg_40 (Nat.le_of_ble_eq_true rfl) rfl rfl (mp_40_0 _) ?_
  refine G_name (fun S1_2 hS1_2 => ?_)
  have hVS1_2 : zWM Q S1_2 := by rw [hS1_2]; exact hV.s40_0 (by first | assumption | exact ⟨by omega, by omega⟩)
  have h62 : S1_2 (62, 0, 0, 0) x = S (62, 0, 0, 0) x := by rw [hS1_2, zst_k _ _ _ _ (by simp)]
  refine G_iload_n (pc := 5) 1 1 dX7_end_5 rfl rfl ?_
  refine G_callSd (pc := 6) gk_X7_137 dX7_end_6 (c_X7_isProducer (by first | assumption | omega | exact ⟨by omega, by omega⟩ | exact hS _ _ | exact hT _ _)) rfl rfl (Nat.le_of_ble_eq_true rfl) ⟨⟨Nat.le_of_ble_eq_true rfl, Nat.le_of_ble_eq_true rfl⟩, Nat.le_of_ble_eq_true rfl, Nat.le_of_ble_eq_true rfl⟩ ?_
  refine G_if_ne_b (pc := 9) 18 dX7_end_9 (by decide) (fun c9 => ?_) (fun c9 => ?_)
  · refine G_aload_n (pc := 18) 0 0 dX7_end_18 rfl rfl ?_
    refine G_getf (pc := 19) fl_X7_63 dX7_end_19 mg_40 rfl ?_
    refine G_iload_n (pc := 22) 1 1 dX7_end_22 rfl rfl ?_
    refine G_iald (pc := 23) dX7_end_23 mg_62 ⟨by omega, by omega, by omega, by omega⟩ ?_
    have hb23 := hVS1_2.b62 (x)
    refine G_iconst (pc := 24) dX7_end_24 ?_
    refine G_icmp_ne (pc := 25) 34 dX7_end_25 (by decide) (by first | exact hS _ _ | exact hT _ _ | exact ⟨by omega, by omega⟩ | assumption | exact zWM.r (by assumption) _ _ (by decide)) (by first | exact hS _ _ | exact hT _ _ | exact ⟨by omega, by omega⟩ | assumption | exact zWM.r (by assumption) _ _ (by decide)) (fun c25 => ?_) (fun c25 => ?_)
    · exfalso
      omega
    · refine G_aload_n (pc := 28) 0 0 dX7_end_28 rfl rfl ?_
      refine G_iconst (pc := 29) dX7_end_29 ?_
      refine G_callVd (pc := 30) gk_X7_134 dX7_end_30 mg_40 rfl (c_X7_no (Q := Q) (by first | assumption | omega | exact ⟨by omega, by omega⟩ | exact hS _ _ | exact hT _ _) (by first | assumption | omega | exact ⟨by omega, by omega⟩ | exact hS _ _ | exact hT _ _)) rfl rfl (Nat.le_of_ble_eq_true rfl) ⟨⟨Nat.le_of_ble_eq_true rfl, Nat.le_of_ble_eq_true rfl⟩, Nat.le_of_ble_eq_true rfl, Nat.le_of_ble_eq_true rfl⟩ ?_
      refine G_name (fun S2_30 hS2_30 => ?_)
      have hVS2_30 : zWM Q S2_30 := by rw [hS2_30]; exact hVS1_2.s40_0 (by first | assumption | exact ⟨by omega, by omega⟩)
      exact G_iret_m (pc := 33) hF dX7_end_33 ⟨Nat.le_of_ble_eq_true rfl, Nat.le_of_ble_eq_true rfl⟩ (by first | rfl | omega | simp_all) (by rw [hS2_30, hS1_2, zst_zst])
  · exfalso
    omega
set_option maxHeartbeats 4000000 in
set_option maxRecDepth 100000 in
theorem c_X7_end_0 {l : Launch} {Δ : zDl} {ad : zK → Nat} {P : zP} {S : zS} {X : zMem} {Q : zP} {x b : Int} (hV : zWM Q S) (h61 : Q 61 0 0 = P 61 0 0) (hx : 0 ≤ x ∧ x < 4) (hrb : zR b) (hb : b = 0) (h1 : ¬ S (62, 0, 0, 0) x = -1) : zMn l Δ yX7_end cX7_end 6 (some .int) 9 0 0 [.ref (ad (40, 0, 0, 0)), .int (zI x), .int (zI b)] ad (mm Δ ad P S X) (zD (some (.int (zI (mte (zst (zst (zst S (40, 0, 0, 0) 0 0) (62, 0, 0, 0) x (-1)) (61, 0, 0, 0) (S (62, 0, 0, 0) x) 2) (S (62, 0, 0, 0) x))))) ad (mm Δ ad P (msa Q (zst (zst (zst S (40, 0, 0, 0) 0 0) (62, 0, 0, 0) x (-1)) (61, 0, 0, 0) (S (62, 0, 0, 0) x) 2)) X)) := by
  refine zMn_of (by decide) (Nat.le_of_ble_eq_true rfl) (fun Γ hl hΔ hF => ?_)
  subst hl hΔ
  show G Γ _ _ _ RX7 _ _ _ _ _ [(0, .ref (ad (40, 0, 0, 0))), (1, .int (zI x)), (2, .int (zI b))] []
  have hq := hV.q
  have hbx := hV.b62 x
  refine G_aload_n (pc := 0) 0 0 dX7_end_0 rfl rfl ?_
  refine G_iconst (pc := 1) dX7_end_1 ?_
  refine G_putf (pc := 2) fl_X7_93 fp_X7_0 dX7_end_2 mg_40 (Nat.le_of_ble_eq_true rfl) rfl rfl (mp_40_0 _) ?_
  refine G_name (fun S1_2 hS1_2 => ?_)
  have hVS1_2 : zWM Q S1_2 := by rw [hS1_2]; exact hV.s40_0 (by first | assumption | exact ⟨by omega, by omega⟩)
  have h62 : S1_2 (62, 0, 0, 0) x = S (62, 0, 0, 0) x := by rw [hS1_2, zst_k _ _ _ _ (by simp)]
  refine G_iload_n (pc := 5) 1 1 dX7_end_5 rfl rfl ?_
  refine G_callSd (pc := 6) gk_X7_137 dX7_end_6 (c_X7_isProducer (by first | assumption | omega | exact ⟨by omega, by omega⟩ | exact hS _ _ | exact hT _ _)) rfl rfl (Nat.le_of_ble_eq_true rfl) ⟨⟨Nat.le_of_ble_eq_true rfl, Nat.le_of_ble_eq_true rfl⟩, Nat.le_of_ble_eq_true rfl, Nat.le_of_ble_eq_true rfl⟩ ?_
  refine G_if_ne_b (pc := 9) 18 dX7_end_9 (by decide) (fun c9 => ?_) (fun c9 => ?_)
  · refine G_aload_n (pc := 18) 0 0 dX7_end_18 rfl rfl ?_
    refine G_getf (pc := 19) fl_X7_63 dX7_end_19 mg_40 rfl ?_
    refine G_iload_n (pc := 22) 1 1 dX7_end_22 rfl rfl ?_
    refine G_iald (pc := 23) dX7_end_23 mg_62 ⟨by omega, by omega, by omega, by omega⟩ ?_
    have hb23 := hVS1_2.b62 (x)
    refine G_iconst (pc := 24) dX7_end_24 ?_
    refine G_icmp_ne (pc := 25) 34 dX7_end_25 (by decide) (by first | exact hS _ _ | exact hT _ _ | exact ⟨by omega, by omega⟩ | assumption | exact zWM.r (by assumption) _ _ (by decide)) (by first | exact hS _ _ | exact hT _ _ | exact ⟨by omega, by omega⟩ | assumption | exact zWM.r (by assumption) _ _ (by decide)) (fun c25 => ?_) (fun c25 => ?_)
    · refine G_aload_n (pc := 34) 0 0 dX7_end_34 rfl rfl ?_
      refine G_getf (pc := 35) fl_X7_63 dX7_end_35 mg_40 rfl ?_
      refine G_iload_n (pc := 38) 1 1 dX7_end_38 rfl rfl ?_
      refine G_iald (pc := 39) dX7_end_39 mg_62 ⟨by omega, by omega, by omega, by omega⟩ ?_
      have hb39 := hVS1_2.b62 (x)
      refine G_istore_ne (pc := 40) 3 (fun zw => [(3, .int (zI zw)), (0, .ref (ad (40, 0, 0, 0))), (1, .int (zI x)), (2, .int (zI b))]) dX7_end_40 rfl (by decide) (fun _ => rfl) (fun v40 e40 => ?_)
      refine G_aload_n (pc := 41) 0 1 dX7_end_41 rfl rfl ?_
      refine G_getf (pc := 42) fl_X7_63 dX7_end_42 mg_40 rfl ?_
      refine G_iload_n (pc := 45) 1 2 dX7_end_45 rfl rfl ?_
      refine G_iconst (pc := 46) dX7_end_46 ?_
      refine G_iast (pc := 47) dX7_end_47 mg_62 ⟨by omega, by omega, by omega, by omega⟩ (mp_62 _ _) ?_
      refine G_name (fun S2_47 hS2_47 => ?_)
      have hVS2_47 : zWM Q S2_47 := by rw [hS2_47]; exact hVS1_2.s62 ⟨by omega, by omega⟩
      refine G_aload_n (pc := 48) 0 1 dX7_end_48 rfl rfl ?_
      refine G_getf (pc := 49) fl_X7_60 dX7_end_49 mg_40 rfl ?_
      refine G_iload_n (pc := 52) 3 0 dX7_end_52 rfl rfl ?_
      refine G_iload_n (pc := 53) 2 3 dX7_end_53 rfl rfl ?_
      refine G_if_eq (pc := 54) 61 dX7_end_54 (by decide) (by first | exact hS _ _ | exact hT _ _ | exact ⟨by omega, by omega⟩ | assumption | exact zWM.r (by assumption) _ _ (by decide)) (fun c54 => ?_) (fun c54 => ?_)
      · refine G_iconst (pc := 61) dX7_end_61 ?_
        refine G_iast (pc := 62) dX7_end_62 mg_61 ⟨by omega, by omega, by omega, by omega⟩ (mp_61 _ _) ?_
        refine G_name (fun S3_62 hS3_62 => ?_)
        have hVS3_62 : zWM Q S3_62 := by rw [hS3_62]; exact hVS2_47.s61 (by first | assumption | exact zWM.r (by assumption) _ _ (by decide) | exact ⟨by omega, by omega⟩)
        refine G_iconst (pc := 63) dX7_end_63 ?_
        refine G_istore_e (pc := 64) (fun zw => [(4, .int (zI zw)), (3, .int (zI v40)), (0, .ref (ad (40, 0, 0, 0))), (1, .int (zI x)), (2, .int (zI b))]) dX7_end_64 (by decide) (fun _ => rfl) (fun v64 e64 => ?_)
        refine G_iconst (pc := 66) dX7_end_66 ?_
        refine G_istore_e (pc := 67) (fun zw => [(5, .int (zI zw)), (4, .int (zI v64)), (3, .int (zI v40)), (0, .ref (ad (40, 0, 0, 0))), (1, .int (zI x)), (2, .int (zI b))]) dX7_end_67 (by decide) (fun _ => rfl) (fun v67 e67 => ?_)
        have h11 := hVS3_62.f11
        have L69 : ∀ (n : Nat) (k : Int) (o : Int), ((0 ≤ o ∧ o ≤ S3_62 (40, 0, 0, 0) 11) ∧ k + sm (fun m => if S3_62 (57, 0, 0, 0) m = v40 then 1 else 0) o (S3_62 (40, 0, 0, 0) 11) = mte S3_62 v40) → (S3_62 (40, 0, 0, 0) 11 - o).toNat < n → G Γ (zRm 9 0 0) cX7_end 6 RX7 ad (mm (z_d Γ) ad P S3_62 X) 0 0 69 [(0, .ref (ad (40, 0, 0, 0))), (1, .int (zI x)), (2, .int (zI b)), (3, .int (zI v40)), (4, .int (zI k)), (5, .int (zI o))] [] := by
          intro n
          induction n with
          | zero => intro k o _ hn; omega
          | succ n ih69 =>
            intro k o hi69 hn69
            refine G_iload (pc := 69) 5 dX7_end_69 rfl ?_
            refine G_aload_n (pc := 71) 0 0 dX7_end_71 rfl rfl ?_
            refine G_getf (pc := 72) fl_X7_140 dX7_end_72 mg_40 rfl ?_
            have hb72 := hVS3_62.f11
            refine G_icmp_ge (pc := 75) 105 dX7_end_75 (by decide) (by first | exact hS _ _ | exact hT _ _ | exact ⟨by omega, by omega⟩ | assumption | exact zWM.r (by assumption) _ _ (by decide)) (by first | exact hS _ _ | exact hT _ _ | exact ⟨by omega, by omega⟩ | assumption | exact zWM.r (by assumption) _ _ (by decide)) (fun c75 => ?_) (fun c75 => ?_)
            · refine G_aload_n (pc := 105) 0 0 dX7_end_105 rfl rfl ?_
              refine G_callVv (pc := 106) gk_X7_146 dX7_end_106 mg_40 rfl (c_X7_settle (Q := Q) (by first | assumption | omega | exact ⟨by omega, by omega⟩ | exact hS _ _ | exact hT _ _) (by first | assumption | omega | exact ⟨by omega, by omega⟩ | exact hS _ _ | exact hT _ _)) rfl rfl (Nat.le_of_ble_eq_true rfl) ⟨⟨Nat.le_of_ble_eq_true rfl, Nat.le_of_ble_eq_true rfl⟩, Nat.le_of_ble_eq_true rfl, Nat.le_of_ble_eq_true rfl⟩ ?_
              refine G_name (fun S4_106 hS4_106 => ?_)
              have hVS4_106 : zWM Q S4_106 := by rw [hS4_106]; exact msa_W hVS3_62
              refine G_iload (pc := 109) 4 dX7_end_109 rfl ?_
              exact G_iret_m (pc := 111) hF dX7_end_111 ⟨Nat.le_of_ble_eq_true rfl, Nat.le_of_ble_eq_true rfl⟩ (by rw [show mte (zst (zst (zst S (40, 0, 0, 0) 0 0) (62, 0, 0, 0) x (-1)) (61, 0, 0, 0) (S (62, 0, 0, 0) x) 2) (S (62, 0, 0, 0) x) = mte S3_62 v40 by rw [hS3_62, e40, h62, hS2_47, hS1_2], ← hi69.2, sm_end (by omega)]; omega) (by rw [hS4_106, hS3_62, e40, h62, hS2_47, hS1_2])
            · refine G_iload (pc := 78) 4 dX7_end_78 rfl ?_
              refine G_aload_n (pc := 80) 0 0 dX7_end_80 rfl rfl ?_
              refine G_getf (pc := 81) fl_X7_51 dX7_end_81 mg_40 rfl ?_
              refine G_iload (pc := 84) 5 dX7_end_84 rfl ?_
              refine G_iald (pc := 86) dX7_end_86 mg_57 ⟨by omega, by omega, by omega, by omega⟩ ?_
              have hb86 := hVS3_62.b57 (o)
              refine G_iload_n (pc := 87) 3 3 dX7_end_87 rfl rfl ?_
              refine G_icmp_ne (pc := 88) 95 dX7_end_88 (by decide) (by first | exact hS _ _ | exact hT _ _ | exact ⟨by omega, by omega⟩ | assumption | exact zWM.r (by assumption) _ _ (by decide)) (by first | exact hS _ _ | exact hT _ _ | exact ⟨by omega, by omega⟩ | assumption | exact zWM.r (by assumption) _ _ (by decide)) (fun c88 => ?_) (fun c88 => ?_)
              · refine G_iconst (pc := 95) dX7_end_95 ?_
                refine G_iadd (pc := 96) dX7_end_96 ?_
                refine G_istore_e (pc := 97) (fun zw => [(4, .int (zI zw)), (0, .ref (ad (40, 0, 0, 0))), (1, .int (zI x)), (2, .int (zI b)), (3, .int (zI v40)), (5, .int (zI o))]) dX7_end_97 (by decide) (fun _ => rfl) (fun v97 e97 => ?_)
                refine G_iinc_e (pc := 99) 5 (fun zw => [(5, .int (zI zw)), (4, .int (zI v97)), (0, .ref (ad (40, 0, 0, 0))), (1, .int (zI x)), (2, .int (zI b)), (3, .int (zI v40))]) dX7_end_99 rfl (by decide) (fun _ => rfl) (fun v99 e99 => ?_)
                refine G_goto (pc := 102) 69 dX7_end_102 (by decide) ?_
                refine G_perm (lv' := [(0, .ref (ad (40, 0, 0, 0))), (1, .int (zI x)), (2, .int (zI b)), (3, .int (zI v40)), (4, .int (zI v97)), (5, .int (zI v99))]) [2, 3, 4, 5, 1, 0] rfl ?_
                exact ih69 v97 v99  ⟨by omega, by rw [← hi69.2, sm_step (a := o) (n := S3_62 (40, 0, 0, 0) 11) (by omega), e99]; first | (rw [if_pos c88]; omega) | (rw [if_neg c88]; omega)⟩ (by omega)
              · refine G_iconst (pc := 91) dX7_end_91 ?_
                refine G_goto (pc := 92) 96 dX7_end_92 (by decide) ?_
                refine G_iadd (pc := 96) dX7_end_96 ?_
                refine G_istore_e (pc := 97) (fun zw => [(4, .int (zI zw)), (0, .ref (ad (40, 0, 0, 0))), (1, .int (zI x)), (2, .int (zI b)), (3, .int (zI v40)), (5, .int (zI o))]) dX7_end_97 (by decide) (fun _ => rfl) (fun v97 e97 => ?_)
                refine G_iinc_e (pc := 99) 5 (fun zw => [(5, .int (zI zw)), (4, .int (zI v97)), (0, .ref (ad (40, 0, 0, 0))), (1, .int (zI x)), (2, .int (zI b)), (3, .int (zI v40))]) dX7_end_99 rfl (by decide) (fun _ => rfl) (fun v99 e99 => ?_)
                refine G_goto (pc := 102) 69 dX7_end_102 (by decide) ?_
                refine G_perm (lv' := [(0, .ref (ad (40, 0, 0, 0))), (1, .int (zI x)), (2, .int (zI b)), (3, .int (zI v40)), (4, .int (zI v97)), (5, .int (zI v99))]) [2, 3, 4, 5, 1, 0] rfl ?_
                exact ih69 v97 v99  ⟨by omega, by rw [← hi69.2, sm_step (a := o) (n := S3_62 (40, 0, 0, 0) 11) (by omega), e99]; first | (rw [if_pos c88]; omega) | (rw [if_neg c88]; omega)⟩ (by omega)
        refine G_perm (lv' := [(0, .ref (ad (40, 0, 0, 0))), (1, .int (zI x)), (2, .int (zI b)), (3, .int (zI v40)), (4, .int (zI v64)), (5, .int (zI v67))]) [3, 4, 5, 2, 1, 0] rfl ?_
        exact L69 _ v64 v67  ⟨by omega, by rw [e64, e67]; exact Int.zero_add _⟩ (Nat.lt_succ_self _)
      · exfalso
        omega
    · exfalso
      omega
  · exfalso
    omega
set_option maxHeartbeats 4000000 in
set_option maxRecDepth 100000 in
theorem c_X7_end_1 {l : Launch} {Δ : zDl} {ad : zK → Nat} {P : zP} {S : zS} {X : zMem} {Q : zP} {x b : Int} (hV : zWM Q S) (h61 : Q 61 0 0 = P 61 0 0) (hx : 0 ≤ x ∧ x < 4) (hrb : zR b) (hb : ¬ b = 0) (h1 : ¬ S (62, 0, 0, 0) x = -1) : zMn l Δ yX7_end cX7_end 6 (some .int) 9 0 0 [.ref (ad (40, 0, 0, 0)), .int (zI x), .int (zI b)] ad (mm Δ ad P S X) (zD (some (.int (zI (mte (zst (zst (zst S (40, 0, 0, 0) 0 0) (62, 0, 0, 0) x (-1)) (61, 0, 0, 0) (S (62, 0, 0, 0) x) 1) (S (62, 0, 0, 0) x))))) ad (mm Δ ad P (msa Q (zst (zst (zst S (40, 0, 0, 0) 0 0) (62, 0, 0, 0) x (-1)) (61, 0, 0, 0) (S (62, 0, 0, 0) x) 1)) X)) := by
  refine zMn_of (by decide) (Nat.le_of_ble_eq_true rfl) (fun Γ hl hΔ hF => ?_)
  subst hl hΔ
  show G Γ _ _ _ RX7 _ _ _ _ _ [(0, .ref (ad (40, 0, 0, 0))), (1, .int (zI x)), (2, .int (zI b))] []
  have hq := hV.q
  have hbx := hV.b62 x
  refine G_aload_n (pc := 0) 0 0 dX7_end_0 rfl rfl ?_
  refine G_iconst (pc := 1) dX7_end_1 ?_
  refine G_putf (pc := 2) fl_X7_93 fp_X7_0 dX7_end_2 mg_40 (Nat.le_of_ble_eq_true rfl) rfl rfl (mp_40_0 _) ?_
  refine G_name (fun S1_2 hS1_2 => ?_)
  have hVS1_2 : zWM Q S1_2 := by rw [hS1_2]; exact hV.s40_0 (by first | assumption | exact ⟨by omega, by omega⟩)
  have h62 : S1_2 (62, 0, 0, 0) x = S (62, 0, 0, 0) x := by rw [hS1_2, zst_k _ _ _ _ (by simp)]
  refine G_iload_n (pc := 5) 1 1 dX7_end_5 rfl rfl ?_
  refine G_callSd (pc := 6) gk_X7_137 dX7_end_6 (c_X7_isProducer (by first | assumption | omega | exact ⟨by omega, by omega⟩ | exact hS _ _ | exact hT _ _)) rfl rfl (Nat.le_of_ble_eq_true rfl) ⟨⟨Nat.le_of_ble_eq_true rfl, Nat.le_of_ble_eq_true rfl⟩, Nat.le_of_ble_eq_true rfl, Nat.le_of_ble_eq_true rfl⟩ ?_
  refine G_if_ne_b (pc := 9) 18 dX7_end_9 (by decide) (fun c9 => ?_) (fun c9 => ?_)
  · refine G_aload_n (pc := 18) 0 0 dX7_end_18 rfl rfl ?_
    refine G_getf (pc := 19) fl_X7_63 dX7_end_19 mg_40 rfl ?_
    refine G_iload_n (pc := 22) 1 1 dX7_end_22 rfl rfl ?_
    refine G_iald (pc := 23) dX7_end_23 mg_62 ⟨by omega, by omega, by omega, by omega⟩ ?_
    have hb23 := hVS1_2.b62 (x)
    refine G_iconst (pc := 24) dX7_end_24 ?_
    refine G_icmp_ne (pc := 25) 34 dX7_end_25 (by decide) (by first | exact hS _ _ | exact hT _ _ | exact ⟨by omega, by omega⟩ | assumption | exact zWM.r (by assumption) _ _ (by decide)) (by first | exact hS _ _ | exact hT _ _ | exact ⟨by omega, by omega⟩ | assumption | exact zWM.r (by assumption) _ _ (by decide)) (fun c25 => ?_) (fun c25 => ?_)
    · refine G_aload_n (pc := 34) 0 0 dX7_end_34 rfl rfl ?_
      refine G_getf (pc := 35) fl_X7_63 dX7_end_35 mg_40 rfl ?_
      refine G_iload_n (pc := 38) 1 1 dX7_end_38 rfl rfl ?_
      refine G_iald (pc := 39) dX7_end_39 mg_62 ⟨by omega, by omega, by omega, by omega⟩ ?_
      have hb39 := hVS1_2.b62 (x)
      refine G_istore_ne (pc := 40) 3 (fun zw => [(3, .int (zI zw)), (0, .ref (ad (40, 0, 0, 0))), (1, .int (zI x)), (2, .int (zI b))]) dX7_end_40 rfl (by decide) (fun _ => rfl) (fun v40 e40 => ?_)
      refine G_aload_n (pc := 41) 0 1 dX7_end_41 rfl rfl ?_
      refine G_getf (pc := 42) fl_X7_63 dX7_end_42 mg_40 rfl ?_
      refine G_iload_n (pc := 45) 1 2 dX7_end_45 rfl rfl ?_
      refine G_iconst (pc := 46) dX7_end_46 ?_
      refine G_iast (pc := 47) dX7_end_47 mg_62 ⟨by omega, by omega, by omega, by omega⟩ (mp_62 _ _) ?_
      refine G_name (fun S2_47 hS2_47 => ?_)
      have hVS2_47 : zWM Q S2_47 := by rw [hS2_47]; exact hVS1_2.s62 ⟨by omega, by omega⟩
      refine G_aload_n (pc := 48) 0 1 dX7_end_48 rfl rfl ?_
      refine G_getf (pc := 49) fl_X7_60 dX7_end_49 mg_40 rfl ?_
      refine G_iload_n (pc := 52) 3 0 dX7_end_52 rfl rfl ?_
      refine G_iload_n (pc := 53) 2 3 dX7_end_53 rfl rfl ?_
      refine G_if_eq (pc := 54) 61 dX7_end_54 (by decide) (by first | exact hS _ _ | exact hT _ _ | exact ⟨by omega, by omega⟩ | assumption | exact zWM.r (by assumption) _ _ (by decide)) (fun c54 => ?_) (fun c54 => ?_)
      · exfalso
        omega
      · refine G_iconst (pc := 57) dX7_end_57 ?_
        refine G_goto (pc := 58) 62 dX7_end_58 (by decide) ?_
        refine G_iast (pc := 62) dX7_end_62 mg_61 ⟨by omega, by omega, by omega, by omega⟩ (mp_61 _ _) ?_
        refine G_name (fun S3_62 hS3_62 => ?_)
        have hVS3_62 : zWM Q S3_62 := by rw [hS3_62]; exact hVS2_47.s61 (by first | assumption | exact zWM.r (by assumption) _ _ (by decide) | exact ⟨by omega, by omega⟩)
        refine G_iconst (pc := 63) dX7_end_63 ?_
        refine G_istore_e (pc := 64) (fun zw => [(4, .int (zI zw)), (3, .int (zI v40)), (0, .ref (ad (40, 0, 0, 0))), (1, .int (zI x)), (2, .int (zI b))]) dX7_end_64 (by decide) (fun _ => rfl) (fun v64 e64 => ?_)
        refine G_iconst (pc := 66) dX7_end_66 ?_
        refine G_istore_e (pc := 67) (fun zw => [(5, .int (zI zw)), (4, .int (zI v64)), (3, .int (zI v40)), (0, .ref (ad (40, 0, 0, 0))), (1, .int (zI x)), (2, .int (zI b))]) dX7_end_67 (by decide) (fun _ => rfl) (fun v67 e67 => ?_)
        have h11 := hVS3_62.f11
        have L69 : ∀ (n : Nat) (k : Int) (o : Int), ((0 ≤ o ∧ o ≤ S3_62 (40, 0, 0, 0) 11) ∧ k + sm (fun m => if S3_62 (57, 0, 0, 0) m = v40 then 1 else 0) o (S3_62 (40, 0, 0, 0) 11) = mte S3_62 v40) → (S3_62 (40, 0, 0, 0) 11 - o).toNat < n → G Γ (zRm 9 0 0) cX7_end 6 RX7 ad (mm (z_d Γ) ad P S3_62 X) 0 0 69 [(0, .ref (ad (40, 0, 0, 0))), (1, .int (zI x)), (2, .int (zI b)), (3, .int (zI v40)), (4, .int (zI k)), (5, .int (zI o))] [] := by
          intro n
          induction n with
          | zero => intro k o _ hn; omega
          | succ n ih69 =>
            intro k o hi69 hn69
            refine G_iload (pc := 69) 5 dX7_end_69 rfl ?_
            refine G_aload_n (pc := 71) 0 0 dX7_end_71 rfl rfl ?_
            refine G_getf (pc := 72) fl_X7_140 dX7_end_72 mg_40 rfl ?_
            have hb72 := hVS3_62.f11
            refine G_icmp_ge (pc := 75) 105 dX7_end_75 (by decide) (by first | exact hS _ _ | exact hT _ _ | exact ⟨by omega, by omega⟩ | assumption | exact zWM.r (by assumption) _ _ (by decide)) (by first | exact hS _ _ | exact hT _ _ | exact ⟨by omega, by omega⟩ | assumption | exact zWM.r (by assumption) _ _ (by decide)) (fun c75 => ?_) (fun c75 => ?_)
            · refine G_aload_n (pc := 105) 0 0 dX7_end_105 rfl rfl ?_
              refine G_callVv (pc := 106) gk_X7_146 dX7_end_106 mg_40 rfl (c_X7_settle (Q := Q) (by first | assumption | omega | exact ⟨by omega, by omega⟩ | exact hS _ _ | exact hT _ _) (by first | assumption | omega | exact ⟨by omega, by omega⟩ | exact hS _ _ | exact hT _ _)) rfl rfl (Nat.le_of_ble_eq_true rfl) ⟨⟨Nat.le_of_ble_eq_true rfl, Nat.le_of_ble_eq_true rfl⟩, Nat.le_of_ble_eq_true rfl, Nat.le_of_ble_eq_true rfl⟩ ?_
              refine G_name (fun S4_106 hS4_106 => ?_)
              have hVS4_106 : zWM Q S4_106 := by rw [hS4_106]; exact msa_W hVS3_62
              refine G_iload (pc := 109) 4 dX7_end_109 rfl ?_
              exact G_iret_m (pc := 111) hF dX7_end_111 ⟨Nat.le_of_ble_eq_true rfl, Nat.le_of_ble_eq_true rfl⟩ (by rw [show mte (zst (zst (zst S (40, 0, 0, 0) 0 0) (62, 0, 0, 0) x (-1)) (61, 0, 0, 0) (S (62, 0, 0, 0) x) 1) (S (62, 0, 0, 0) x) = mte S3_62 v40 by rw [hS3_62, e40, h62, hS2_47, hS1_2], ← hi69.2, sm_end (by omega)]; omega) (by rw [hS4_106, hS3_62, e40, h62, hS2_47, hS1_2])
            · refine G_iload (pc := 78) 4 dX7_end_78 rfl ?_
              refine G_aload_n (pc := 80) 0 0 dX7_end_80 rfl rfl ?_
              refine G_getf (pc := 81) fl_X7_51 dX7_end_81 mg_40 rfl ?_
              refine G_iload (pc := 84) 5 dX7_end_84 rfl ?_
              refine G_iald (pc := 86) dX7_end_86 mg_57 ⟨by omega, by omega, by omega, by omega⟩ ?_
              have hb86 := hVS3_62.b57 (o)
              refine G_iload_n (pc := 87) 3 3 dX7_end_87 rfl rfl ?_
              refine G_icmp_ne (pc := 88) 95 dX7_end_88 (by decide) (by first | exact hS _ _ | exact hT _ _ | exact ⟨by omega, by omega⟩ | assumption | exact zWM.r (by assumption) _ _ (by decide)) (by first | exact hS _ _ | exact hT _ _ | exact ⟨by omega, by omega⟩ | assumption | exact zWM.r (by assumption) _ _ (by decide)) (fun c88 => ?_) (fun c88 => ?_)
              · refine G_iconst (pc := 95) dX7_end_95 ?_
                refine G_iadd (pc := 96) dX7_end_96 ?_
                refine G_istore_e (pc := 97) (fun zw => [(4, .int (zI zw)), (0, .ref (ad (40, 0, 0, 0))), (1, .int (zI x)), (2, .int (zI b)), (3, .int (zI v40)), (5, .int (zI o))]) dX7_end_97 (by decide) (fun _ => rfl) (fun v97 e97 => ?_)
                refine G_iinc_e (pc := 99) 5 (fun zw => [(5, .int (zI zw)), (4, .int (zI v97)), (0, .ref (ad (40, 0, 0, 0))), (1, .int (zI x)), (2, .int (zI b)), (3, .int (zI v40))]) dX7_end_99 rfl (by decide) (fun _ => rfl) (fun v99 e99 => ?_)
                refine G_goto (pc := 102) 69 dX7_end_102 (by decide) ?_
                refine G_perm (lv' := [(0, .ref (ad (40, 0, 0, 0))), (1, .int (zI x)), (2, .int (zI b)), (3, .int (zI v40)), (4, .int (zI v97)), (5, .int (zI v99))]) [2, 3, 4, 5, 1, 0] rfl ?_
                exact ih69 v97 v99  ⟨by omega, by rw [← hi69.2, sm_step (a := o) (n := S3_62 (40, 0, 0, 0) 11) (by omega), e99]; first | (rw [if_pos c88]; omega) | (rw [if_neg c88]; omega)⟩ (by omega)
              · refine G_iconst (pc := 91) dX7_end_91 ?_
                refine G_goto (pc := 92) 96 dX7_end_92 (by decide) ?_
                refine G_iadd (pc := 96) dX7_end_96 ?_
                refine G_istore_e (pc := 97) (fun zw => [(4, .int (zI zw)), (0, .ref (ad (40, 0, 0, 0))), (1, .int (zI x)), (2, .int (zI b)), (3, .int (zI v40)), (5, .int (zI o))]) dX7_end_97 (by decide) (fun _ => rfl) (fun v97 e97 => ?_)
                refine G_iinc_e (pc := 99) 5 (fun zw => [(5, .int (zI zw)), (4, .int (zI v97)), (0, .ref (ad (40, 0, 0, 0))), (1, .int (zI x)), (2, .int (zI b)), (3, .int (zI v40))]) dX7_end_99 rfl (by decide) (fun _ => rfl) (fun v99 e99 => ?_)
                refine G_goto (pc := 102) 69 dX7_end_102 (by decide) ?_
                refine G_perm (lv' := [(0, .ref (ad (40, 0, 0, 0))), (1, .int (zI x)), (2, .int (zI b)), (3, .int (zI v40)), (4, .int (zI v97)), (5, .int (zI v99))]) [2, 3, 4, 5, 1, 0] rfl ?_
                exact ih69 v97 v99  ⟨by omega, by rw [← hi69.2, sm_step (a := o) (n := S3_62 (40, 0, 0, 0) 11) (by omega), e99]; first | (rw [if_pos c88]; omega) | (rw [if_neg c88]; omega)⟩ (by omega)
        refine G_perm (lv' := [(0, .ref (ad (40, 0, 0, 0))), (1, .int (zI x)), (2, .int (zI b)), (3, .int (zI v40)), (4, .int (zI v64)), (5, .int (zI v67))]) [3, 4, 5, 2, 1, 0] rfl ?_
        exact L69 _ v64 v67  ⟨by omega, by rw [e64, e67]; exact Int.zero_add _⟩ (Nat.lt_succ_self _)
    · exfalso
      omega
  · exfalso
    omega
set_option maxHeartbeats 4000000 in
set_option maxRecDepth 100000 in
theorem c_X7_begin_x {l : Launch} {Δ : zDl} {ad : zK → Nat} {P : zP} {S : zS} {X : zMem} {Q : zP} {x : Int} (hV : zWM Q S) (h61 : Q 61 0 0 = P 61 0 0) (hrx : zR x) (hn : ¬ (0 ≤ x ∧ x < 4)) : zMn l Δ yX7_begin cX7_begin 3 (some .int) 9 0 0 [.ref (ad (40, 0, 0, 0)), .int (zI x)] ad (mm Δ ad P S X) (zD (some (.int (zI 0))) ad (mm Δ ad P (zst S (40, 0, 0, 0) 0 1) X)) := by
  refine zMn_of (by decide) (Nat.le_of_ble_eq_true rfl) (fun Γ hl hΔ hF => ?_)
  subst hl hΔ
  show G Γ _ _ _ RX7 _ _ _ _ _ [(0, .ref (ad (40, 0, 0, 0))), (1, .int (zI x))] []
  have hq := hV.q
  refine G_aload_n (pc := 0) 0 0 dX7_begin_0 rfl rfl ?_
  refine G_iconst (pc := 1) dX7_begin_1 ?_
  refine G_putf (pc := 2) fl_X7_93 fp_X7_0 dX7_begin_2 mg_40 (Nat.le_of_ble_eq_true rfl) rfl rfl (mp_40_0 _) ?_
  refine G_name (fun S1_2 hS1_2 => ?_)
  have hVS1_2 : zWM Q S1_2 := by rw [hS1_2]; exact hV.s40_0 (by first | assumption | exact ⟨by omega, by omega⟩)
  refine G_iload_n (pc := 5) 1 1 dX7_begin_5 rfl rfl ?_
  refine G_callSd (pc := 6) gk_X7_137 dX7_begin_6 (c_X7_isProducer (by first | assumption | omega | exact ⟨by omega, by omega⟩ | exact hS _ _ | exact hT _ _)) rfl rfl (Nat.le_of_ble_eq_true rfl) ⟨⟨Nat.le_of_ble_eq_true rfl, Nat.le_of_ble_eq_true rfl⟩, Nat.le_of_ble_eq_true rfl, Nat.le_of_ble_eq_true rfl⟩ ?_
  refine G_if_ne_b (pc := 9) 18 dX7_begin_9 (by decide) (fun c9 => ?_) (fun c9 => ?_)
  · exfalso
    omega
  · refine G_aload_n (pc := 12) 0 0 dX7_begin_12 rfl rfl ?_
    refine G_iconst (pc := 13) dX7_begin_13 ?_
    refine G_callVd (pc := 14) gk_X7_134 dX7_begin_14 mg_40 rfl (c_X7_no (Q := Q) (by first | assumption | omega | exact ⟨by omega, by omega⟩ | exact hS _ _ | exact hT _ _) (by first | assumption | omega | exact ⟨by omega, by omega⟩ | exact hS _ _ | exact hT _ _)) rfl rfl (Nat.le_of_ble_eq_true rfl) ⟨⟨Nat.le_of_ble_eq_true rfl, Nat.le_of_ble_eq_true rfl⟩, Nat.le_of_ble_eq_true rfl, Nat.le_of_ble_eq_true rfl⟩ ?_
    refine G_name (fun S2_14 hS2_14 => ?_)
    have hVS2_14 : zWM Q S2_14 := by rw [hS2_14]; exact hVS1_2.s40_0 (by first | assumption | exact ⟨by omega, by omega⟩)
    exact G_iret_m (pc := 17) hF dX7_begin_17 ⟨Nat.le_of_ble_eq_true rfl, Nat.le_of_ble_eq_true rfl⟩ (by first | rfl | omega | simp_all) (by rw [hS2_14, hS1_2, zst_zst])
set_option maxHeartbeats 4000000 in
set_option maxRecDepth 100000 in
theorem c_X7_begin_y {l : Launch} {Δ : zDl} {ad : zK → Nat} {P : zP} {S : zS} {X : zMem} {Q : zP} {x : Int} (hV : zWM Q S) (h61 : Q 61 0 0 = P 61 0 0) (hx : 0 ≤ x ∧ x < 4) (h1 : ¬ S (62, 0, 0, 0) x = -1) : zMn l Δ yX7_begin cX7_begin 3 (some .int) 9 0 0 [.ref (ad (40, 0, 0, 0)), .int (zI x)] ad (mm Δ ad P S X) (zD (some (.int (zI 0))) ad (mm Δ ad P (zst S (40, 0, 0, 0) 0 2) X)) := by
  refine zMn_of (by decide) (Nat.le_of_ble_eq_true rfl) (fun Γ hl hΔ hF => ?_)
  subst hl hΔ
  show G Γ _ _ _ RX7 _ _ _ _ _ [(0, .ref (ad (40, 0, 0, 0))), (1, .int (zI x))] []
  have hq := hV.q
  refine G_aload_n (pc := 0) 0 0 dX7_begin_0 rfl rfl ?_
  refine G_iconst (pc := 1) dX7_begin_1 ?_
  refine G_putf (pc := 2) fl_X7_93 fp_X7_0 dX7_begin_2 mg_40 (Nat.le_of_ble_eq_true rfl) rfl rfl (mp_40_0 _) ?_
  refine G_name (fun S1_2 hS1_2 => ?_)
  have hVS1_2 : zWM Q S1_2 := by rw [hS1_2]; exact hV.s40_0 (by first | assumption | exact ⟨by omega, by omega⟩)
  have h62 : S1_2 (62, 0, 0, 0) x = S (62, 0, 0, 0) x := by rw [hS1_2, zst_k _ _ _ _ (by simp)]
  refine G_iload_n (pc := 5) 1 1 dX7_begin_5 rfl rfl ?_
  refine G_callSd (pc := 6) gk_X7_137 dX7_begin_6 (c_X7_isProducer (by first | assumption | omega | exact ⟨by omega, by omega⟩ | exact hS _ _ | exact hT _ _)) rfl rfl (Nat.le_of_ble_eq_true rfl) ⟨⟨Nat.le_of_ble_eq_true rfl, Nat.le_of_ble_eq_true rfl⟩, Nat.le_of_ble_eq_true rfl, Nat.le_of_ble_eq_true rfl⟩ ?_
  refine G_if_ne_b (pc := 9) 18 dX7_begin_9 (by decide) (fun c9 => ?_) (fun c9 => ?_)
  · refine G_aload_n (pc := 18) 0 0 dX7_begin_18 rfl rfl ?_
    refine G_getf (pc := 19) fl_X7_63 dX7_begin_19 mg_40 rfl ?_
    refine G_iload_n (pc := 22) 1 1 dX7_begin_22 rfl rfl ?_
    refine G_iald (pc := 23) dX7_begin_23 mg_62 ⟨by omega, by omega, by omega, by omega⟩ ?_
    have hb23 := hVS1_2.b62 (x)
    refine G_iconst (pc := 24) dX7_begin_24 ?_
    refine G_icmp_eq (pc := 25) 34 dX7_begin_25 (by decide) (by first | exact hS _ _ | exact hT _ _ | exact ⟨by omega, by omega⟩ | assumption | exact zWM.r (by assumption) _ _ (by decide)) (by first | exact hS _ _ | exact hT _ _ | exact ⟨by omega, by omega⟩ | assumption | exact zWM.r (by assumption) _ _ (by decide)) (fun c25 => ?_) (fun c25 => ?_)
    · exfalso
      omega
    · refine G_aload_n (pc := 28) 0 0 dX7_begin_28 rfl rfl ?_
      refine G_iconst (pc := 29) dX7_begin_29 ?_
      refine G_callVd (pc := 30) gk_X7_134 dX7_begin_30 mg_40 rfl (c_X7_no (Q := Q) (by first | assumption | omega | exact ⟨by omega, by omega⟩ | exact hS _ _ | exact hT _ _) (by first | assumption | omega | exact ⟨by omega, by omega⟩ | exact hS _ _ | exact hT _ _)) rfl rfl (Nat.le_of_ble_eq_true rfl) ⟨⟨Nat.le_of_ble_eq_true rfl, Nat.le_of_ble_eq_true rfl⟩, Nat.le_of_ble_eq_true rfl, Nat.le_of_ble_eq_true rfl⟩ ?_
      refine G_name (fun S2_30 hS2_30 => ?_)
      have hVS2_30 : zWM Q S2_30 := by rw [hS2_30]; exact hVS1_2.s40_0 (by first | assumption | exact ⟨by omega, by omega⟩)
      exact G_iret_m (pc := 33) hF dX7_begin_33 ⟨Nat.le_of_ble_eq_true rfl, Nat.le_of_ble_eq_true rfl⟩ (by first | rfl | omega | simp_all) (by rw [hS2_30, hS1_2, zst_zst])
  · exfalso
    omega
set_option maxHeartbeats 4000000 in
set_option maxRecDepth 100000 in
theorem c_X7_begin {l : Launch} {Δ : zDl} {ad : zK → Nat} {P : zP} {S : zS} {X : zMem} {Q : zP} {x : Int} (hV : zWM Q S) (h61 : Q 61 0 0 = P 61 0 0) (hx : 0 ≤ x ∧ x < 4) (h1 : S (62, 0, 0, 0) x = -1) (ht : S (40, 0, 0, 0) 20 < Q 61 0 0) : zMn l Δ yX7_begin cX7_begin 3 (some .int) 9 0 0 [.ref (ad (40, 0, 0, 0)), .int (zI x)] ad (mm Δ ad P S X) (zD (some (.int (zI (S (40, 0, 0, 0) 20 + 1)))) ad (mm Δ ad P (zst (zst (zst (zst S (40, 0, 0, 0) 0 0) (62, 0, 0, 0) x (S (40, 0, 0, 0) 20)) (40, 0, 0, 0) 20 (S (40, 0, 0, 0) 20 + 1)) (61, 0, 0, 0) (S (40, 0, 0, 0) 20) 0) X)) := by
  refine zMn_of (by decide) (Nat.le_of_ble_eq_true rfl) (fun Γ hl hΔ hF => ?_)
  subst hl hΔ
  show G Γ _ _ _ RX7 _ _ _ _ _ [(0, .ref (ad (40, 0, 0, 0))), (1, .int (zI x))] []
  have hq := hV.q
  refine G_aload_n (pc := 0) 0 0 dX7_begin_0 rfl rfl ?_
  refine G_iconst (pc := 1) dX7_begin_1 ?_
  refine G_putf (pc := 2) fl_X7_93 fp_X7_0 dX7_begin_2 mg_40 (Nat.le_of_ble_eq_true rfl) rfl rfl (mp_40_0 _) ?_
  refine G_name (fun S1_2 hS1_2 => ?_)
  have hVS1_2 : zWM Q S1_2 := by rw [hS1_2]; exact hV.s40_0 (by first | assumption | exact ⟨by omega, by omega⟩)
  have h62 : S1_2 (62, 0, 0, 0) x = S (62, 0, 0, 0) x := by rw [hS1_2, zst_k _ _ _ _ (by simp)]
  have h20 : S1_2 (40, 0, 0, 0) 20 = S (40, 0, 0, 0) 20 := by rw [hS1_2, zst_f _ _ _ (by decide)]
  refine G_iload_n (pc := 5) 1 1 dX7_begin_5 rfl rfl ?_
  refine G_callSd (pc := 6) gk_X7_137 dX7_begin_6 (c_X7_isProducer (by first | assumption | omega | exact ⟨by omega, by omega⟩ | exact hS _ _ | exact hT _ _)) rfl rfl (Nat.le_of_ble_eq_true rfl) ⟨⟨Nat.le_of_ble_eq_true rfl, Nat.le_of_ble_eq_true rfl⟩, Nat.le_of_ble_eq_true rfl, Nat.le_of_ble_eq_true rfl⟩ ?_
  refine G_if_ne_b (pc := 9) 18 dX7_begin_9 (by decide) (fun c9 => ?_) (fun c9 => ?_)
  · refine G_aload_n (pc := 18) 0 0 dX7_begin_18 rfl rfl ?_
    refine G_getf (pc := 19) fl_X7_63 dX7_begin_19 mg_40 rfl ?_
    refine G_iload_n (pc := 22) 1 1 dX7_begin_22 rfl rfl ?_
    refine G_iald (pc := 23) dX7_begin_23 mg_62 ⟨by omega, by omega, by omega, by omega⟩ ?_
    have hb23 := hVS1_2.b62 (x)
    refine G_iconst (pc := 24) dX7_begin_24 ?_
    refine G_icmp_eq (pc := 25) 34 dX7_begin_25 (by decide) (by first | exact hS _ _ | exact hT _ _ | exact ⟨by omega, by omega⟩ | assumption | exact zWM.r (by assumption) _ _ (by decide)) (by first | exact hS _ _ | exact hT _ _ | exact ⟨by omega, by omega⟩ | assumption | exact zWM.r (by assumption) _ _ (by decide)) (fun c25 => ?_) (fun c25 => ?_)
    · refine G_aload_n (pc := 34) 0 0 dX7_begin_34 rfl rfl ?_
      refine G_getf (pc := 35) fl_X7_149 dX7_begin_35 mg_40 rfl ?_
      have hb35 := hVS1_2.f20
      refine G_aload_n (pc := 38) 0 0 dX7_begin_38 rfl rfl ?_
      refine G_getf (pc := 39) fl_X7_60 dX7_begin_39 mg_40 rfl ?_
      refine G_alen (pc := 42) (t := 0) rfl dX7_begin_42 mg_61 ?_
      refine G_icmp_ne (pc := 43) 74 dX7_begin_43 (by decide) (by first | exact hS _ _ | exact hT _ _ | exact ⟨by omega, by omega⟩ | assumption | exact zWM.r (by assumption) _ _ (by decide)) (by first | exact hS _ _ | exact hT _ _ | exact ⟨by omega, by omega⟩ | assumption | exact zWM.r (by assumption) _ _ (by decide)) (fun c43 => ?_) (fun c43 => ?_)
      · refine G_aload_n (pc := 74) 0 0 dX7_begin_74 rfl rfl ?_
        refine G_getf (pc := 75) fl_X7_63 dX7_begin_75 mg_40 rfl ?_
        refine G_iload_n (pc := 78) 1 1 dX7_begin_78 rfl rfl ?_
        refine G_aload_n (pc := 79) 0 0 dX7_begin_79 rfl rfl ?_
        refine G_getf (pc := 80) fl_X7_149 dX7_begin_80 mg_40 rfl ?_
        have hb80 := hVS1_2.f20
        refine G_iast (pc := 83) dX7_begin_83 mg_62 ⟨by omega, by omega, by omega, by omega⟩ (mp_62 _ _) ?_
        refine G_name (fun S2_83 hS2_83 => ?_)
        have hVS2_83 : zWM Q S2_83 := by rw [hS2_83]; exact hVS1_2.s62 ⟨by omega, by omega⟩
        have h202 : S2_83 (40, 0, 0, 0) 20 = S (40, 0, 0, 0) 20 := by rw [hS2_83, zst_k _ _ _ _ (by simp)]; exact h20
        refine G_aload_n (pc := 84) 0 0 dX7_begin_84 rfl rfl ?_
        refine G_getf (pc := 85) fl_X7_60 dX7_begin_85 mg_40 rfl ?_
        refine G_aload_n (pc := 88) 0 0 dX7_begin_88 rfl rfl ?_
        refine G_dup (pc := 89) dX7_begin_89 rfl ?_
        refine G_getf (pc := 90) fl_X7_149 dX7_begin_90 mg_40 rfl ?_
        have hb90 := hVS2_83.f20
        refine G_dup_x1 (pc := 93) dX7_begin_93 rfl rfl ?_
        refine G_iconst (pc := 94) dX7_begin_94 ?_
        refine G_iadd (pc := 95) dX7_begin_95 ?_
        refine G_putf (pc := 96) fl_X7_149 fp_X7_20 dX7_begin_96 mg_40 (Nat.le_of_ble_eq_true rfl) rfl rfl (mp_40_20 _) ?_
        refine G_name (fun S3_96 hS3_96 => ?_)
        have hVS3_96 : zWM Q S3_96 := by rw [hS3_96]; exact hVS2_83.s40_20 (by first | assumption | exact ⟨by omega, by omega⟩)
        refine G_iconst (pc := 99) dX7_begin_99 ?_
        refine G_iast (pc := 100) dX7_begin_100 mg_61 ⟨by omega, by omega, by omega, by omega⟩ (mp_61 _ _) ?_
        refine G_name (fun S4_100 hS4_100 => ?_)
        have hVS4_100 : zWM Q S4_100 := by rw [hS4_100]; exact hVS3_96.s61 (by first | assumption | exact zWM.r (by assumption) _ _ (by decide) | exact ⟨by omega, by omega⟩)
        refine G_aload_n (pc := 101) 0 0 dX7_begin_101 rfl rfl ?_
        refine G_getf (pc := 102) fl_X7_149 dX7_begin_102 mg_40 rfl ?_
        have hb102 := hVS4_100.f20
        exact G_iret_m (pc := 105) hF dX7_begin_105 ⟨Nat.le_of_ble_eq_true rfl, Nat.le_of_ble_eq_true rfl⟩ (by rw [hS4_100, zst_k _ _ _ _ (by simp), hS3_96, zst_s]; omega) (by rw [hS4_100, h202, hS3_96, h202, hS2_83, h20, hS1_2])
      · exfalso
        omega
    · exfalso
      omega
  · exfalso
    omega
