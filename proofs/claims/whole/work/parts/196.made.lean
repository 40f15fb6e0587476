set_option maxHeartbeats 4000000 in
set_option maxRecDepth 100000 in
theorem c_X7_write {l : Launch} {Δ : zDl} {ad : zK → Nat} {P : zP} {S : zS} {X : zMem} {Q : zP} {a g m : Int} (hV : zWM Q S) (hX0 : X (90, 0, 0, 0) = none) (hm : 0 ≤ m ∧ m < 80) (ha : zR a) (hg : zR g) : zMn l Δ yX7_write cX7_write 5 none 3 1 5 [.ref (ad (40, 0, 0, 0)), .int (zI a), .int (zI g), .int (zI m)] ad (mm Δ ad P S X) (zD none ad (mm Δ ad P (mwr S a g m) X)) := by
  refine zMn_of (by decide) (Nat.le_of_ble_eq_true rfl) (fun Γ hl hΔ hF => ?_)
  subst hl hΔ
  show G Γ _ _ _ RX7 _ _ _ _ _ [(0, .ref (ad (40, 0, 0, 0))), (1, .int (zI a)), (2, .int (zI g)), (3, .int (zI m))] []
  have hq := hV.q
  have h32 := hV.f32
  refine G_aload_n (pc := 0) 0 0 dX7_write_0 rfl rfl ?_
  refine G_getf (pc := 1) fl_X7_207 dX7_write_1 mg_40 rfl ?_
  refine G_sipush (pc := 4) dX7_write_4 (by decide) ?_
  refine G_icmp_ne (pc := 7) 11 dX7_write_7 (by decide) (by first | exact hS _ _ | exact hT _ _ | exact ⟨by omega, by omega⟩ | assumption | exact zWM.r (by assumption) _ _ (by decide)) (by first | exact hS _ _ | exact hT _ _ | exact ⟨by omega, by omega⟩ | assumption | exact zWM.r (by assumption) _ _ (by decide)) (fun c7 => ?_) (fun c7 => ?_)
  · refine G_iconst (pc := 11) dX7_write_11 ?_
    refine G_newI (pc := 12) (N := 5) (lvf := fun ad => [(0, .ref (ad (40, 0, 0, 0))), (1, .int (zI a)), (2, .int (zI g)), (3, .int (zI m))]) (stf := fun ad => []) hX0 dX7_write_12 rfl ⟨by omega, by omega⟩ ⟨Nat.le_of_ble_eq_true rfl, Nat.le_of_ble_eq_true rfl⟩ (fun ad' h => ⟨by rw [h (40, 0, 0, 0) (by decide)], rfl⟩) (fun ad1 had1 => ?_)
    show G Γ _ _ _ _ _ _ (1) (5) _ _ _
    refine G_dup (pc := 14) dX7_write_14 rfl ?_
    refine G_iconst (pc := 15) dX7_write_15 ?_
    refine G_iload_n (pc := 16) 1 1 dX7_write_16 rfl rfl ?_
    refine G_tias (pc := 17) dX7_write_17 ⟨by omega, by omega, by omega, by omega⟩ (fun F17 hF17 => ?_)
    refine G_dup (pc := 18) dX7_write_18 rfl ?_
    refine G_iconst (pc := 19) dX7_write_19 ?_
    refine G_iload_n (pc := 20) 2 2 dX7_write_20 rfl rfl ?_
    refine G_tias (pc := 21) dX7_write_21 ⟨by omega, by omega, by omega, by omega⟩ (fun F21 hF21 => ?_)
    refine G_dup (pc := 22) dX7_write_22 rfl ?_
    refine G_iconst (pc := 23) dX7_write_23 ?_
    refine G_aload_n (pc := 24) 0 0 dX7_write_24 rfl rfl ?_
    refine G_getf (pc := 25) fl_X7_36 dX7_write_25 mg_40 rfl ?_
    refine G_iload_n (pc := 28) 3 3 dX7_write_28 rfl rfl ?_
    refine G_iald (pc := 29) dX7_write_29 mg_52 ⟨by omega, by omega, by omega, by omega⟩ ?_
    have hb29 := hV.b52 (m)
    refine G_iconst (pc := 30) dX7_write_30 ?_
    refine G_irem (pc := 31) dX7_write_31 ⟨by omega, by omega, by omega⟩ ⟨by omega, by omega, by omega⟩ ?_
    refine G_tias (pc := 32) dX7_write_32 ⟨by omega, by omega, by omega, by omega⟩ (fun F32 hF32 => ?_)
    refine G_dup (pc := 33) dX7_write_33 rfl ?_
    refine G_iconst (pc := 34) dX7_write_34 ?_
    refine G_aload_n (pc := 35) 0 0 dX7_write_35 rfl rfl ?_
    refine G_getf (pc := 36) fl_X7_39 dX7_write_36 mg_40 rfl ?_
    refine G_iload_n (pc := 39) 3 3 dX7_write_39 rfl rfl ?_
    refine G_iald (pc := 40) dX7_write_40 mg_53 ⟨by omega, by omega, by omega, by omega⟩ ?_
    have hb40 := hV.b53 (m)
    refine G_tias (pc := 41) dX7_write_41 ⟨by omega, by omega, by omega, by omega⟩ (fun F41 hF41 => ?_)
    refine G_dup (pc := 42) dX7_write_42 rfl ?_
    refine G_iconst (pc := 43) dX7_write_43 ?_
    refine G_aload_n (pc := 44) 0 0 dX7_write_44 rfl rfl ?_
    refine G_getf (pc := 45) fl_X7_143 dX7_write_45 mg_40 rfl ?_
    refine G_tias (pc := 48) dX7_write_48 ⟨by omega, by omega, by omega, by omega⟩ (fun F48 hF48 => ?_)
    refine G_astore (pc := 49) [(4, .ref (ad1 (90, 0, 0, 0))), (0, .ref (ad1 (40, 0, 0, 0))), (1, .int (zI a)), (2, .int (zI g)), (3, .int (zI m))] dX7_write_49 (by decide) rfl ?_
    refine G_aload (pc := 51) 0 dX7_write_51 rfl ?_
    refine G_iconst (pc := 53) dX7_write_53 ?_
    refine G_aload_n (pc := 54) 0 1 dX7_write_54 rfl rfl ?_
    refine G_getf (pc := 55) fl_X7_90 dX7_write_55 mg_40 rfl ?_
    refine G_aload_n (pc := 58) 0 1 dX7_write_58 rfl rfl ?_
    refine G_getf (pc := 59) fl_X7_207 dX7_write_59 mg_40 rfl ?_
    refine G_iconst (pc := 62) dX7_write_62 ?_
    refine G_imul (pc := 63) dX7_write_63 ?_
    refine G_iconst (pc := 64) dX7_write_64 ?_
    refine G_copy (pc := 65) (k0 := (90, 0, 0, 0)) (k1 := (73, 0, 0, 0)) dX7_write_65 zTm_g mg_73 ⟨by omega, by omega⟩ ⟨by omega, by omega⟩ (by omega) ⟨by omega, by omega⟩ ⟨Nat.le_of_ble_eq_true rfl, Nat.le_of_ble_eq_true rfl⟩ (mm_row (73, 0, 0, 0) (by decide) _ _ rfl) ?_
    refine G_name (fun S1_65 hS1_65 => ?_)
    have hzc : S1_65 = zst (zst (zst (zst (zst S (73, 0, 0, 0) (S (40, 0, 0, 0) 32 * 5) a) (73, 0, 0, 0) (S (40, 0, 0, 0) 32 * 5 + 1) g) (73, 0, 0, 0) (S (40, 0, 0, 0) 32 * 5 + 2) (S (52, 0, 0, 0) m % 4)) (73, 0, 0, 0) (S (40, 0, 0, 0) 32 * 5 + 3) (S (53, 0, 0, 0) m)) (73, 0, 0, 0) (S (40, 0, 0, 0) 32 * 5 + 4) (S (40, 0, 0, 0) 1) := by rw [hS1_65, hF48, hF41, hF32, hF21, hF17]; exact zcp5 _ _ _ _ _ _ _ _
    refine G_aload_n (pc := 68) 0 1 dX7_write_68 rfl rfl ?_
    refine G_dup (pc := 69) dX7_write_69 rfl ?_
    refine G_getf (pc := 70) fl_X7_207 dX7_write_70 mg_40 rfl ?_
    refine G_iconst (pc := 73) dX7_write_73 ?_
    refine G_iadd (pc := 74) dX7_write_74 ?_
    refine G_putf (pc := 75) fl_X7_207 fp_X7_32 dX7_write_75 mg_40 (Nat.le_of_ble_eq_true rfl) rfl rfl (mp_40_32 _) ?_
    refine G_name (fun S2_75 hS2_75 => ?_)
    have hz9 : S2_75 = mwr S a g m := by unfold mwr; rw [if_neg c7, hS2_75, hzc, zst_k _ _ _ _ (by simp), zst_k _ _ _ _ (by simp), zst_k _ _ _ _ (by simp), zst_k _ _ _ _ (by simp), zst_k _ _ _ _ (by simp)]
    refine G_drop hX0 (by decide) had1 ?_
    have hz9 : S2_75 = mwr S a g m := by unfold mwr; rw [if_neg c7, hS2_75, hzc, zst_k _ _ _ _ (by simp), zst_k _ _ _ _ (by simp), zst_k _ _ _ _ (by simp), zst_k _ _ _ _ (by simp), zst_k _ _ _ _ (by simp)]
    exact G_vret_d (pc := 78) hF dX7_write_78 ⟨Nat.le_of_ble_eq_true rfl, Nat.le_of_ble_eq_true rfl⟩ (by rw [hz9])
  · exact G_vret_d (pc := 10) hF dX7_write_10 ⟨Nat.le_of_ble_eq_true rfl, Nat.le_of_ble_eq_true rfl⟩ (by unfold mwr; rw [if_pos c7])
set_option maxHeartbeats 4000000 in
set_option maxRecDepth 100000 in
theorem c_X7_nackNow {l : Launch} {Δ : zDl} {ad : zK → Nat} {P : zP} {S : zS} {X : zMem} {Q : zP} {g m : Int} (hV : zWM Q S) (hX0 : X (90, 0, 0, 0) = none) (hm : 0 ≤ m ∧ m < 80) (hg4 : 0 ≤ g ∧ g < 4) (h1 : 1 ≤ S (70, 0, 0, 0) (g * 80 + m)) : zMn l Δ yX7_nackNow cX7_nackNow 4 (some .int) 4 2 10 [.ref (ad (40, 0, 0, 0)), .int (zI g), .int (zI m)] ad (mm Δ ad P S X) (zD (some (.int (zI (mnr S g m)))) ad (mm Δ ad P (mnk S g m) X)) := by
  refine zMn_of (by decide) (Nat.le_of_ble_eq_true rfl) (fun Γ hl hΔ hF => ?_)
  subst hl hΔ
  show G Γ _ _ _ RX7 _ _ _ _ _ [(0, .ref (ad (40, 0, 0, 0))), (1, .int (zI g)), (2, .int (zI m))] []
  have hq := hV.q
  have hf1 := hV.f1
  have hf2 := hV.f2
  have h70 := hV.b70 (g * 80 + m)
  refine G_iload_n (pc := 0) 1 1 dX7_nackNow_0 rfl rfl ?_
  refine G_bipush (pc := 1) dX7_nackNow_1 (by decide) ?_
  refine G_imul (pc := 3) dX7_nackNow_3 ?_
  refine G_iload_n (pc := 4) 2 2 dX7_nackNow_4 rfl rfl ?_
  refine G_iadd (pc := 5) dX7_nackNow_5 ?_
  refine G_istore_n (pc := 6) 3 [(3, .int (zI ((g * 80) + m))), (0, .ref (ad (40, 0, 0, 0))), (1, .int (zI g)), (2, .int (zI m))] dX7_nackNow_6 rfl (by decide) rfl ?_
  refine G_aload_n (pc := 7) 0 1 dX7_nackNow_7 rfl rfl ?_
  refine G_iconst (pc := 8) dX7_nackNow_8 ?_
  refine G_iload_n (pc := 9) 1 2 dX7_nackNow_9 rfl rfl ?_
  refine G_iload_n (pc := 10) 2 3 dX7_nackNow_10 rfl rfl ?_
  refine G_callVvA (pc := 11) gk_X7_213 dX7_nackNow_11 mg_40 rfl (c_X7_write (Q := Q) (by first | assumption | omega | exact ⟨by omega, by omega⟩ | exact hS _ _ | exact hT _ _) (by first | assumption | omega | exact ⟨by omega, by omega⟩ | exact hS _ _ | exact hT _ _) (by first | assumption | omega | exact ⟨by omega, by omega⟩ | exact hS _ _ | exact hT _ _) (by first | assumption | omega | exact ⟨by omega, by omega⟩ | exact hS _ _ | exact hT _ _) (by first | assumption | omega | exact ⟨by omega, by omega⟩ | exact hS _ _ | exact hT _ _)) rfl rfl (Nat.le_of_ble_eq_true rfl) ⟨⟨Nat.le_of_ble_eq_true rfl, Nat.le_of_ble_eq_true rfl⟩, (by show 0 + 1 ≤ 2; omega), (by show 0 + 5 ≤ 10; omega)⟩ ?_
  show G Γ _ _ _ _ _ _ (1) (5) _ _ _
  refine G_name (fun S1_11 hS1_11 => ?_)
  have hVS1_11 : zWM Q S1_11 := by rw [hS1_11]; exact mwr_W hV (by first | assumption | exact ⟨by omega, by omega⟩) (by first | assumption | exact ⟨by omega, by omega⟩)
  have hzt : S1_11 (70, 0, 0, 0) (g * 80 + m) = S (70, 0, 0, 0) (g * 80 + m) := by rw [hS1_11]; exact mwr_70
  have hz1 : S1_11 (40, 0, 0, 0) 1 = S (40, 0, 0, 0) 1 := by rw [hS1_11]; exact mwr_40 (by decide)
  have hz2 : S1_11 (40, 0, 0, 0) 2 = S (40, 0, 0, 0) 2 := by rw [hS1_11]; exact mwr_40 (by decide)
  refine G_aload_n (pc := 14) 0 1 dX7_nackNow_14 rfl rfl ?_
  refine G_getf (pc := 15) fl_X7_84 dX7_nackNow_15 mg_40 rfl ?_
  refine G_iload_n (pc := 18) 3 0 dX7_nackNow_18 rfl rfl ?_
  refine G_iald (pc := 19) dX7_nackNow_19 mg_70 ⟨by omega, by omega, by omega, by omega⟩ ?_
  have hb19 := hVS1_11.b70 ((g * 80) + m)
  refine G_iconst (pc := 20) dX7_nackNow_20 ?_
  refine G_icmp_ne (pc := 21) 40 dX7_nackNow_21 (by decide) (by first | exact hS _ _ | exact hT _ _ | exact ⟨by omega, by omega⟩ | assumption | exact zWM.r (by assumption) _ _ (by decide)) (by first | exact hS _ _ | exact hT _ _ | exact ⟨by omega, by omega⟩ | assumption | exact zWM.r (by assumption) _ _ (by decide)) (fun c21 => ?_) (fun c21 => ?_)
  · refine G_aload_n (pc := 40) 0 1 dX7_nackNow_40 rfl rfl ?_
    refine G_getf (pc := 41) fl_X7_81 dX7_nackNow_41 mg_40 rfl ?_
    refine G_iload_n (pc := 44) 3 0 dX7_nackNow_44 rfl rfl ?_
    refine G_iconst (pc := 45) dX7_nackNow_45 ?_
    refine G_iast (pc := 46) dX7_nackNow_46 mg_69 ⟨by omega, by omega, by omega, by omega⟩ (mp_69 _ _) ?_
    refine G_name (fun S2_46 hS2_46 => ?_)
    have hVS2_46 : zWM Q S2_46 := by rw [hS2_46]; exact hVS1_11.s69 ⟨by omega, by omega⟩
    have hz3 : S2_46 (70, 0, 0, 0) (g * 80 + m) = S (70, 0, 0, 0) (g * 80 + m) := by rw [hS2_46, zst_k _ _ _ _ (by simp)]; exact hzt
    have hz4 : S2_46 (40, 0, 0, 0) 1 = S (40, 0, 0, 0) 1 := by rw [hS2_46, zst_k _ _ _ _ (by simp)]; exact hz1
    have hz5 : S2_46 (40, 0, 0, 0) 2 = S (40, 0, 0, 0) 2 := by rw [hS2_46, zst_k _ _ _ _ (by simp)]; exact hz2
    refine G_aload_n (pc := 47) 0 1 dX7_nackNow_47 rfl rfl ?_
    refine G_getf (pc := 48) fl_X7_87 dX7_nackNow_48 mg_40 rfl ?_
    refine G_iload_n (pc := 51) 3 0 dX7_nackNow_51 rfl rfl ?_
    refine G_aload_n (pc := 52) 0 1 dX7_nackNow_52 rfl rfl ?_
    refine G_getf (pc := 53) fl_X7_143 dX7_nackNow_53 mg_40 rfl ?_
    refine G_aload_n (pc := 56) 0 1 dX7_nackNow_56 rfl rfl ?_
    refine G_getf (pc := 57) fl_X7_7 dX7_nackNow_57 mg_40 rfl ?_
    refine G_iconst (pc := 60) dX7_nackNow_60 ?_
    refine G_aload_n (pc := 61) 0 1 dX7_nackNow_61 rfl rfl ?_
    refine G_getf (pc := 62) fl_X7_84 dX7_nackNow_62 mg_40 rfl ?_
    refine G_iload_n (pc := 65) 3 0 dX7_nackNow_65 rfl rfl ?_
    refine G_iald (pc := 66) dX7_nackNow_66 mg_70 ⟨by omega, by omega, by omega, by omega⟩ ?_
    have hb66 := hVS2_46.b70 ((g * 80) + m)
    refine G_iconst (pc := 67) dX7_nackNow_67 ?_
    refine G_isub (pc := 68) dX7_nackNow_68 ?_
    have hsh : 1 ≤ zsh 1 (S2_46 (70, 0, 0, 0) (g * 80 + m) - 1) ∧ zsh 1 (S2_46 (70, 0, 0, 0) (g * 80 + m) - 1) ≤ 2 := by unfold zsh; split <;> omega
    have hsm : 0 ≤ S (40, 0, 0, 0) 2 * zsh 1 (S2_46 (70, 0, 0, 0) (g * 80 + m) - 1) ∧ S (40, 0, 0, 0) 2 * zsh 1 (S2_46 (70, 0, 0, 0) (g * 80 + m) - 1) ≤ 40 := by unfold zsh; split <;> omega
    rw [← hz5] at hsm
    refine G_ishl (pc := 69) dX7_nackNow_69 (by omega) ?_
    refine G_imul (pc := 70) dX7_nackNow_70 ?_
    refine G_iadd (pc := 71) dX7_nackNow_71 ?_
    refine G_iast (pc := 72) dX7_nackNow_72 mg_71 ⟨by omega, by omega, by omega, by omega⟩ (mp_71 _ _) ?_
    refine G_name (fun S3_72 hS3_72 => ?_)
    have hVS3_72 : zWM Q S3_72 := by rw [hS3_72]; exact hVS2_46.s71 ⟨by omega, by omega⟩
    refine G_aload_n (pc := 73) 0 1 dX7_nackNow_73 rfl rfl ?_
    refine G_getf (pc := 74) fl_X7_87 dX7_nackNow_74 mg_40 rfl ?_
    refine G_iload_n (pc := 77) 3 0 dX7_nackNow_77 rfl rfl ?_
    refine G_iald (pc := 78) dX7_nackNow_78 mg_71 ⟨by omega, by omega, by omega, by omega⟩ ?_
    have hb78 := hVS3_72.b71 ((g * 80) + m)
    exact G_iret_m (pc := 79) hF dX7_nackNow_79 ⟨Nat.le_of_ble_eq_true rfl, Nat.le_of_ble_eq_true rfl⟩ (by rw [hS3_72, zst_s]; unfold mnr; rw [if_neg (by omega), hz3, hz4, hz5]) (by rw [hS3_72, hz3, hz4, hz5, hS2_46, hS1_11]; unfold mnk; rw [if_neg (by omega)])
  · refine G_aload_n (pc := 24) 0 1 dX7_nackNow_24 rfl rfl ?_
    refine G_getf (pc := 25) fl_X7_81 dX7_nackNow_25 mg_40 rfl ?_
    refine G_iload_n (pc := 28) 3 0 dX7_nackNow_28 rfl rfl ?_
    refine G_iconst (pc := 29) dX7_nackNow_29 ?_
    refine G_iast (pc := 30) dX7_nackNow_30 mg_69 ⟨by omega, by omega, by omega, by omega⟩ (mp_69 _ _) ?_
    refine G_name (fun S4_30 hS4_30 => ?_)
    have hVS4_30 : zWM Q S4_30 := by rw [hS4_30]; exact hVS1_11.s69 ⟨by omega, by omega⟩
    refine G_aload_n (pc := 31) 0 1 dX7_nackNow_31 rfl rfl ?_
    refine G_iconst (pc := 32) dX7_nackNow_32 ?_
    refine G_iload_n (pc := 33) 1 2 dX7_nackNow_33 rfl rfl ?_
    refine G_iload_n (pc := 34) 2 3 dX7_nackNow_34 rfl rfl ?_
    refine G_callVvA (pc := 35) gk_X7_213 dX7_nackNow_35 mg_40 rfl (c_X7_write (Q := Q) (by first | assumption | omega | exact ⟨by omega, by omega⟩ | exact hS _ _ | exact hT _ _) (by first | assumption | omega | exact ⟨by omega, by omega⟩ | exact hS _ _ | exact hT _ _) (by first | assumption | omega | exact ⟨by omega, by omega⟩ | exact hS _ _ | exact hT _ _) (by first | assumption | omega | exact ⟨by omega, by omega⟩ | exact hS _ _ | exact hT _ _) (by first | assumption | omega | exact ⟨by omega, by omega⟩ | exact hS _ _ | exact hT _ _)) rfl rfl (Nat.le_of_ble_eq_true rfl) ⟨⟨Nat.le_of_ble_eq_true rfl, Nat.le_of_ble_eq_true rfl⟩, (by show 1 + 1 ≤ 2; omega), (by show 5 + 5 ≤ 10; omega)⟩ ?_
    show G Γ _ _ _ _ _ _ (2) (10) _ _ _
    refine G_name (fun S5_35 hS5_35 => ?_)
    have hVS5_35 : zWM Q S5_35 := by rw [hS5_35]; exact mwr_W hVS4_30 (by first | assumption | exact ⟨by omega, by omega⟩) (by first | assumption | exact ⟨by omega, by omega⟩)
    refine G_iconst (pc := 38) dX7_nackNow_38 ?_
    exact G_iret_m (pc := 39) hF dX7_nackNow_39 ⟨Nat.le_of_ble_eq_true rfl, Nat.le_of_ble_eq_true rfl⟩ (by unfold mnr; rw [if_pos (by omega)]) (by rw [hS5_35, hS4_30, hS1_11]; unfold mnk; rw [if_pos (by omega)])
set_option maxHeartbeats 4000000 in
set_option maxRecDepth 100000 in
theorem c_X7_dropOld {l : Launch} {Δ : zDl} {ad : zK → Nat} {P : zP} {S : zS} {X : zMem} {Q : zP} {t p y : Int} (hV : zWM Q S) (hX0 : X (90, 0, 0, 0) = none) (ht : 0 ≤ t ∧ t < Q 0 0 0) (hp : 0 ≤ p ∧ p < Q 1 t 0) (h61 : Q 61 0 0 = P 61 0 0) (hy : 0 ≤ y ∧ y ≤ 200) : zMn l Δ yX7_dropOld cX7_dropOld 4 none 3 0 0 [.ref (ad (40, 0, 0, 0)), .int (zI (t * 4 + p)), .int (zI y)] ad (mm Δ ad P S X) (zD none ad (mm Δ ad P (mdo Q t p y (Q 2 t p - S (47, 0, 0, 0) (t * 4 + p)).toNat S) X)) := by
  refine zMn_of (by decide) (Nat.le_of_ble_eq_true rfl) (fun Γ hl hΔ hF => ?_)
  subst hl hΔ
  show G Γ _ _ _ RX7 _ _ _ _ _ [(0, .ref (ad (40, 0, 0, 0))), (1, .int (zI (t * 4 + p))), (2, .int (zI y))] []
  have hq := hV.q
  have hqt := hV.qt ht
  have hpn := hV.pn ht
  have hqm := hV.qm ht hp
  have hen := hV.en ht hp
  have L0 : ∀ (n : Nat) (T : zS), (mdo Q t p y (Q 2 t p - T (47, 0, 0, 0) (t * 4 + p)).toNat T = mdo Q t p y (Q 2 t p - S (47, 0, 0, 0) (t * 4 + p)).toNat S ∧ zWM Q T) → (Q 2 t p - T (47, 0, 0, 0) (t * 4 + p)).toNat < n → G Γ (zRm 3 0 0) cX7_dropOld 4 RX7 ad (mm (z_d Γ) ad P T X) 0 0 0 [(0, .ref (ad (40, 0, 0, 0))), (1, .int (zI (t * 4 + p))), (2, .int (zI y))] [] := by
    intro n
    induction n with
    | zero => intro  T _ hn; omega
    | succ n ih0 =>
      intro  T hi0 hn0
      obtain ⟨hz, hTV⟩ := hi0
      have hf1 := hTV.f1
      have hen2 := hTV.en ht hp
      have hst := hTV.b47 (t * 4 + p)
      refine G_iload_n (pc := 0) 2 2 dX7_dropOld_0 rfl rfl ?_
      refine G_if_le (pc := 1) 74 dX7_dropOld_1 (by decide) (by first | exact hS _ _ | exact hT _ _ | exact ⟨by omega, by omega⟩ | assumption | exact zWM.r (by assumption) _ _ (by decide)) (fun c1 => ?_) (fun c1 => ?_)
      · exact G_vret_d (pc := 74) hF dX7_dropOld_74 ⟨Nat.le_of_ble_eq_true rfl, Nat.le_of_ble_eq_true rfl⟩ (by rw [← hz, mdo_stop _ (fun h => by have h7 := h.1; omega)])
      · refine G_aload_n (pc := 4) 0 0 dX7_dropOld_4 rfl rfl ?_
        refine G_getf (pc := 5) fl_X7_23 dX7_dropOld_5 mg_40 rfl ?_
        refine G_iload_n (pc := 8) 1 1 dX7_dropOld_8 rfl rfl ?_
        refine G_iald (pc := 9) dX7_dropOld_9 mg_47 ⟨by omega, by omega, by omega, by omega⟩ ?_
        have hb9 := hTV.b47 (t * 4 + p)
        refine G_aload_n (pc := 10) 0 0 dX7_dropOld_10 rfl rfl ?_
        refine G_getf (pc := 11) fl_X7_26 dX7_dropOld_11 mg_40 rfl ?_
        refine G_iload_n (pc := 14) 1 1 dX7_dropOld_14 rfl rfl ?_
        refine G_iald (pc := 15) dX7_dropOld_15 mg_48 ⟨by omega, by omega, by omega, by omega⟩ ?_
        have hb15 := hTV.b48 (t * 4 + p)
        refine G_icmp_ge (pc := 16) 74 dX7_dropOld_16 (by decide) (by first | exact hS _ _ | exact hT _ _ | exact ⟨by omega, by omega⟩ | assumption | exact zWM.r (by assumption) _ _ (by decide)) (by first | exact hS _ _ | exact hT _ _ | exact ⟨by omega, by omega⟩ | assumption | exact zWM.r (by assumption) _ _ (by decide)) (fun c16 => ?_) (fun c16 => ?_)
        · exact G_vret_d (pc := 74) hF dX7_dropOld_74 ⟨Nat.le_of_ble_eq_true rfl, Nat.le_of_ble_eq_true rfl⟩ (by rw [← hz, mdo_stop _ (fun h => by have h7 := h.1; omega)])
        · refine G_aload_n (pc := 19) 0 0 dX7_dropOld_19 rfl rfl ?_
          refine G_iload_n (pc := 20) 1 1 dX7_dropOld_20 rfl rfl ?_
          refine G_aload_n (pc := 21) 0 0 dX7_dropOld_21 rfl rfl ?_
          refine G_getf (pc := 22) fl_X7_23 dX7_dropOld_22 mg_40 rfl ?_
          refine G_iload_n (pc := 25) 1 1 dX7_dropOld_25 rfl rfl ?_
          refine G_iald (pc := 26) dX7_dropOld_26 mg_47 ⟨by omega, by omega, by omega, by omega⟩ ?_
          have hb26 := hTV.b47 (t * 4 + p)
          refine G_callVd (pc := 27) gk_X7_113 dX7_dropOld_27 mg_40 rfl (c_X7_messageAt (Q := Q) (by first | assumption | omega | exact ⟨by omega, by omega⟩ | exact hS _ _ | exact hT _ _) (by first | assumption | omega | exact ⟨by omega, by omega⟩ | exact hS _ _ | exact hT _ _) (by first | assumption | omega | exact ⟨by omega, by omega⟩ | exact hS _ _ | exact hT _ _)) rfl rfl (Nat.le_of_ble_eq_true rfl) ⟨⟨Nat.le_of_ble_eq_true rfl, Nat.le_of_ble_eq_true rfl⟩, Nat.le_of_ble_eq_true rfl, Nat.le_of_ble_eq_true rfl⟩ ?_
          have hb27 := hTV.b59 ((t * 4 + p) * 80 + (T (47, 0, 0, 0) (t * 4 + p)))
          refine G_istore_n (pc := 30) 3 [(3, .int (zI (T (59, 0, 0, 0) ((t * 4 + p) * 80 + (T (47, 0, 0, 0) (t * 4 + p)))))), (0, .ref (ad (40, 0, 0, 0))), (1, .int (zI (t * 4 + p))), (2, .int (zI y))] dX7_dropOld_30 rfl (by decide) rfl ?_
          refine G_aload_n (pc := 31) 0 1 dX7_dropOld_31 rfl rfl ?_
          refine G_getf (pc := 32) fl_X7_48 dX7_dropOld_32 mg_40 rfl ?_
          refine G_iload_n (pc := 35) 3 0 dX7_dropOld_35 rfl rfl ?_
          refine G_iald (pc := 36) dX7_dropOld_36 mg_56 ⟨by omega, by omega, by omega, by omega⟩ ?_
          have hb36 := hTV.b56 (T (59, 0, 0, 0) ((t * 4 + p) * 80 + (T (47, 0, 0, 0) (t * 4 + p))))
          refine G_iload_n (pc := 37) 2 3 dX7_dropOld_37 rfl rfl ?_
          refine G_iadd (pc := 38) dX7_dropOld_38 ?_
          refine G_aload_n (pc := 39) 0 1 dX7_dropOld_39 rfl rfl ?_
          refine G_getf (pc := 40) fl_X7_143 dX7_dropOld_40 mg_40 rfl ?_
          refine G_icmp_gt (pc := 43) 55 dX7_dropOld_43 (by decide) (by first | exact hS _ _ | exact hT _ _ | exact ⟨by omega, by omega⟩ | assumption | exact zWM.r (by assumption) _ _ (by decide)) (by first | exact hS _ _ | exact hT _ _ | exact ⟨by omega, by omega⟩ | assumption | exact zWM.r (by assumption) _ _ (by decide)) (fun c43 => ?_) (fun c43 => ?_)
          · exact G_vret_d (pc := 55) hF dX7_dropOld_55 ⟨Nat.le_of_ble_eq_true rfl, Nat.le_of_ble_eq_true rfl⟩ (by rw [← hz, mdo_stop _ (fun h => by first | exact h.2.2 c52 | (have h7 := h.2.1; omega))])
          · refine G_aload_n (pc := 46) 0 1 dX7_dropOld_46 rfl rfl ?_
            refine G_iload_n (pc := 47) 3 0 dX7_dropOld_47 rfl rfl ?_
            refine G_callVd (pc := 48) gk_X7_117 dX7_dropOld_48 mg_40 rfl (c_X7_seen (Q := Q) (by first | assumption | omega | exact ⟨by omega, by omega⟩ | exact hS _ _ | exact hT _ _) (by first | assumption | omega | exact ⟨by omega, by omega⟩ | exact hS _ _ | exact hT _ _) (by first | assumption | omega | exact ⟨by omega, by omega⟩ | exact hS _ _ | exact hT _ _)) rfl rfl (Nat.le_of_ble_eq_true rfl) ⟨⟨Nat.le_of_ble_eq_true rfl, Nat.le_of_ble_eq_true rfl⟩, Nat.le_of_ble_eq_true rfl, Nat.le_of_ble_eq_true rfl⟩ ?_
            have hb48 := mS_le (S := T) (m := (T (59, 0, 0, 0) ((t * 4 + p) * 80 + (T (47, 0, 0, 0) (t * 4 + p)))))
            refine G_iconst (pc := 51) dX7_dropOld_51 ?_
            refine G_icmp_ne (pc := 52) 56 dX7_dropOld_52 (by decide) (by first | exact hS _ _ | exact hT _ _ | exact ⟨by omega, by omega⟩ | assumption | exact zWM.r (by assumption) _ _ (by decide)) (by first | exact hS _ _ | exact hT _ _ | exact ⟨by omega, by omega⟩ | assumption | exact zWM.r (by assumption) _ _ (by decide)) (fun c52 => ?_) (fun c52 => ?_)
            · have hc : mdc Q t p y T := ⟨⟨by omega, by omega⟩, by omega, c52⟩
              refine G_aload_n (pc := 56) 0 1 dX7_dropOld_56 rfl rfl ?_
              refine G_iload_n (pc := 57) 3 0 dX7_dropOld_57 rfl rfl ?_
              refine G_callVv (pc := 58) gk_X7_161 dX7_dropOld_58 mg_40 rfl (c_X7_drop (Q := Q) (by first | assumption | omega | exact ⟨by omega, by omega⟩ | exact hS _ _ | exact hT _ _) (by first | assumption | omega | exact ⟨by omega, by omega⟩ | exact hS _ _ | exact hT _ _)) rfl rfl (Nat.le_of_ble_eq_true rfl) ⟨⟨Nat.le_of_ble_eq_true rfl, Nat.le_of_ble_eq_true rfl⟩, Nat.le_of_ble_eq_true rfl, Nat.le_of_ble_eq_true rfl⟩ ?_
              refine G_name (fun S1_58 hS1_58 => ?_)
              have hVS1_58 : zWM Q S1_58 := by rw [hS1_58]; exact mdr_W hTV
              have hz7 : S1_58 (47, 0, 0, 0) (t * 4 + p) = T (47, 0, 0, 0) (t * 4 + p) := by rw [hS1_58]; exact mdr_47
              refine G_aload_n (pc := 61) 0 1 dX7_dropOld_61 rfl rfl ?_
              refine G_getf (pc := 62) fl_X7_23 dX7_dropOld_62 mg_40 rfl ?_
              refine G_iload_n (pc := 65) 1 2 dX7_dropOld_65 rfl rfl ?_
              refine G_dup2 (pc := 66) dX7_dropOld_66 rfl rfl ?_
              refine G_iald (pc := 67) dX7_dropOld_67 mg_47 ⟨by omega, by omega, by omega, by omega⟩ ?_
              have hb67 := hVS1_58.b47 (t * 4 + p)
              refine G_iconst (pc := 68) dX7_dropOld_68 ?_
              refine G_iadd (pc := 69) dX7_dropOld_69 ?_
              refine G_iast (pc := 70) dX7_dropOld_70 mg_47 ⟨by omega, by omega, by omega, by omega⟩ (mp_47 _ _) ?_
              refine G_name (fun S2_70 hS2_70 => ?_)
              have hVS2_70 : zWM Q S2_70 := by rw [hS2_70]; exact hVS1_58.s47 ⟨by omega, by omega⟩
              have hz8 : mdd T Q t p = S2_70 := by rw [hS2_70, hz7, hS1_58]; rfl
              have hz9 : S2_70 (47, 0, 0, 0) (t * 4 + p) = T (47, 0, 0, 0) (t * 4 + p) + 1 := by rw [hS2_70, zst_s, hz7]
              refine G_goto (pc := 71) 0 dX7_dropOld_71 (by decide) ?_
              refine G_perm (lv' := [(0, .ref (ad (40, 0, 0, 0))), (1, .int (zI (t * 4 + p))), (2, .int (zI y))]) [1, 2, 3] rfl ?_
              exact ih0  S2_70 ⟨by rw [← hz, show (Q 2 t p - T (47, 0, 0, 0) (t * 4 + p)).toNat = (Q 2 t p - S2_70 (47, 0, 0, 0) (t * 4 + p)).toNat + 1 by omega, mdo_go _ hc, hz8], by assumption⟩ (by omega)
            · exact G_vret_d (pc := 55) hF dX7_dropOld_55 ⟨Nat.le_of_ble_eq_true rfl, Nat.le_of_ble_eq_true rfl⟩ (by rw [← hz, mdo_stop _ (fun h => by first | exact h.2.2 c52 | (have h7 := h.2.1; omega))])
  refine G_perm (lv' := [(0, .ref (ad (40, 0, 0, 0))), (1, .int (zI (t * 4 + p))), (2, .int (zI y))]) [0, 1, 2] rfl ?_
  exact L0 _  S ⟨rfl, hV⟩ (Nat.lt_succ_self _)
