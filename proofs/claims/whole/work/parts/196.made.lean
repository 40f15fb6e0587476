set_option maxHeartbeats 4000000 in
set_option maxRecDepth 100000 in
theorem c_X7_write {l : Launch} {Δ : zDl} {ad : zK → Nat} {P : zP} {S : zS} {X : zMem} {Q : zP} {a g m : Int} (hV : zWM Q S) (hX0 : X (90, 0, 0, 0) = none) (hm : 0 ≤ m ∧ m < 80) (ha : zR a) (hg : zR g) : zMn l Δ yX7_write cX7_write 5 none 3 1 5 [.ref (ad (40, 0, 0, 0)), .int (zI a), .int (zI g), .int (zI m)] ad (mm Δ ad P S X) (zD none ad (mm Δ ad P (mwr S a g m) X)) := by
  refine zMn_of (by decide) (Nat.le_of_ble_eq_true rfl) (fun Γ hl hΔ hF => ?_)
  subst hl hΔ
  show G Γ _ _ _ RX7 _ _ _ _ _ [(0, .ref (ad (40, 0, 0, 0))), (1, .int (zI a)), (2, .int (zI g)), (3, .int (zI m))] []
  have hq := hV.q
  have h32 := hV.f32
  refine G_aload_n (pc := 0) 0 0 dX7_write_0 rfl rfl ?_
  refine G_getf (pc := 1) fl_X7_207 dX7_write_1 mg_40 rfl ?_
  have hb1 := hV.f32
  refine G_sipush (pc := 4) dX7_write_4 (by decide) ?_
  refine G_icmp_ne (pc := 7) 11 dX7_write_7 (by decide) (by first | exact hS _ _ | exact hT _ _ | exact ⟨by omega, by omega⟩ | assumption | exact zWM.r (by assumption) _ _ (by decide)) (by first | exact hS _ _ | exact hT _ _ | exact ⟨by omega, by omega⟩ | assumption | exact zWM.r (by assumption) _ _ (by decide)) (fun c7 => ?_) (fun c7 => ?_)
  · refine G_iconst (pc := 11) dX7_write_11 ?_
    refine G_newI (pc := 12) (N := 5) (lvf := fun ad => [(0, .ref (ad (40, 0, 0, 0))), (1, .int (zI a)), (2, .int (zI g)), (3, .int (zI m))]) (stf := fun ad => []) hX0 dX7_write_12 rfl ⟨by omega, by omega⟩ ⟨Nat.le_of_ble_eq_true rfl, Nat.le_of_ble_eq_true rfl⟩ (fun ad' h => ⟨by rw [h (40, 0, 0, 0) (by decide)], rfl⟩) (fun ad1 had1 => ?_)
    show G Γ _ _ _ _ _ _ (1) (5) _ _ _
    refine G_dup (pc := 14) dX7_write_14 rfl ?_
    refine G_iconst (pc := 15) dX7_write_15 ?_
    refine G_iload_n (pc := 16) 1 1 dX7_write_16 rfl rfl ?_
    refine G_tias (pc := 17) dX7_write_17 ⟨by omega, by omega, by omega, by omega⟩ (fun F17 hF17 => ?_)
    refine G_dup (pc := 18) dX7_write_18 rfl ?_
    refine G_iconst (pc := 19) dX7_write_19 ?_
    refine G_iload_n (pc := 20) 2 2 dX7_write_20 rfl rfl ?_
    refine G_tias (pc := 21) dX7_write_21 ⟨by omega, by omega, by omega, by omega⟩ (fun F21 hF21 => ?_)
    refine G_dup (pc := 22) dX7_write_22 rfl ?_
    refine G_iconst (pc := 23) dX7_write_23 ?_
    refine G_aload_n (pc := 24) 0 0 dX7_write_24 rfl rfl ?_
    refine G_getf (pc := 25) fl_X7_36 dX7_write_25 mg_40 rfl ?_
    refine G_iload_n (pc := 28) 3 3 dX7_write_28 rfl rfl ?_
    refine G_iald (pc := 29) dX7_write_29 mg_52 ⟨by omega, by omega, by omega, by omega⟩ ?_
    have hb29 := hV.b52 (m)
    refine G_iconst (pc := 30) dX7_write_30 ?_
    refine G_irem (pc := 31) dX7_write_31 ⟨by omega, by omega, by omega⟩ ⟨by omega, by omega, by omega⟩ ?_
    refine G_tias (pc := 32) dX7_write_32 ⟨by omega, by omega, by omega, by omega⟩ (fun F32 hF32 => ?_)
    refine G_dup (pc := 33) dX7_write_33 rfl ?_
    refine G_iconst (pc := 34) dX7_write_34 ?_
    refine G_aload_n (pc := 35) 0 0 dX7_write_35 rfl rfl ?_
    refine G_getf (pc := 36) fl_X7_39 dX7_write_36 mg_40 rfl ?_
    refine G_iload_n (pc := 39) 3 3 dX7_write_39 rfl rfl ?_
    refine G_iald (pc := 40) dX7_write_40 mg_53 ⟨by omega, by omega, by omega, by omega⟩ ?_
    have hb40 := hV.b53 (m)
    refine G_tias (pc := 41) dX7_write_41 ⟨by omega, by omega, by omega, by omega⟩ (fun F41 hF41 => ?_)
    refine G_dup (pc := 42) dX7_write_42 rfl ?_
    refine G_iconst (pc := 43) dX7_write_43 ?_
    refine G_aload_n (pc := 44) 0 0 dX7_write_44 rfl rfl ?_
    refine G_getf (pc := 45) fl_X7_143 dX7_write_45 mg_40 rfl ?_
    have hb45 := hV.f1
    refine G_tias (pc := 48) dX7_write_48 ⟨by omega, by omega, by omega, by omega⟩ (fun F48 hF48 => ?_)
    refine G_astore (pc := 49) [(4, .ref (ad1 (90, 0, 0, 0))), (0, .ref (ad1 (40, 0, 0, 0))), (1, .int (zI a)), (2, .int (zI g)), (3, .int (zI m))] dX7_write_49 (by decide) rfl ?_
    refine G_aload (pc := 51) 0 dX7_write_51 rfl ?_
    refine G_iconst (pc := 53) dX7_write_53 ?_
    refine G_aload_n (pc := 54) 0 1 dX7_write_54 rfl rfl ?_
    refine G_getf (pc := 55) fl_X7_90 dX7_write_55 mg_40 rfl ?_
    refine G_aload_n (pc := 58) 0 1 dX7_write_58 rfl rfl ?_
    refine G_getf (pc := 59) fl_X7_207 dX7_write_59 mg_40 rfl ?_
    have hb59 := hV.f32
    refine G_iconst (pc := 62) dX7_write_62 ?_
    refine G_imul (pc := 63) dX7_write_63 ?_
    refine G_iconst (pc := 64) dX7_write_64 ?_
    refine G_copy (pc := 65) (k0 := (90, 0, 0, 0)) (k1 := (73, 0, 0, 0)) dX7_write_65 zTm_g mg_73 ⟨by omega, by omega⟩ ⟨by omega, by omega⟩ (by omega) ⟨by omega, by omega⟩ ⟨Nat.le_of_ble_eq_true rfl, Nat.le_of_ble_eq_true rfl⟩ (mm_row (73, 0, 0, 0) (by decide) _ _ rfl) ?_
    refine G_name (fun S1_65 hS1_65 => ?_)
    have hzc : S1_65 = zst (zst (zst (zst (zst S (73, 0, 0, 0) (S (40, 0, 0, 0) 32 * 5) a) (73, 0, 0, 0) (S (40, 0, 0, 0) 32 * 5 + 1) g) (73, 0, 0, 0) (S (40, 0, 0, 0) 32 * 5 + 2) (S (52, 0, 0, 0) m % 4)) (73, 0, 0, 0) (S (40, 0, 0, 0) 32 * 5 + 3) (S (53, 0, 0, 0) m)) (73, 0, 0, 0) (S (40, 0, 0, 0) 32 * 5 + 4) (S (40, 0, 0, 0) 1) := by rw [hS1_65, hF48, hF41, hF32, hF21, hF17]; exact zcp5 _ _ _ _ _ _ _ _
    refine G_aload_n (pc := 68) 0 1 dX7_write_68 rfl rfl ?_
    refine G_dup (pc := 69) dX7_write_69 rfl ?_
    refine G_getf (pc := 70) fl_X7_207 dX7_write_70 mg_40 rfl ?_
    refine G_iconst (pc := 73) dX7_write_73 ?_
    refine G_iadd (pc := 74) dX7_write_74 ?_
    refine G_putf (pc := 75) fl_X7_207 fp_X7_32 dX7_write_75 mg_40 (Nat.le_of_ble_eq_true rfl) rfl rfl (mp_40_32 _) ?_
    refine G_name (fun S2_75 hS2_75 => ?_)
    have hz9 : S2_75 = mwr S a g m := by unfold mwr; rw [if_neg c7, hS2_75, hzc, zst_k _ _ _ _ (by simp), zst_k _ _ _ _ (by simp), zst_k _ _ _ _ (by simp), zst_k _ _ _ _ (by simp), zst_k _ _ _ _ (by simp)]
    refine G_drop hX0 (by decide) had1 ?_
    have hz9 : S2_75 = mwr S a g m := by unfold mwr; rw [if_neg c7, hS2_75, hzc, zst_k _ _ _ _ (by simp), zst_k _ _ _ _ (by simp), zst_k _ _ _ _ (by simp), zst_k _ _ _ _ (by simp), zst_k _ _ _ _ (by simp)]
    exact G_vret_d (pc := 78) hF dX7_write_78 ⟨Nat.le_of_ble_eq_true rfl, Nat.le_of_ble_eq_true rfl⟩ (by rw [hz9])
  · exact G_vret_d (pc := 10) hF dX7_write_10 ⟨Nat.le_of_ble_eq_true rfl, Nat.le_of_ble_eq_true rfl⟩ (by unfold mwr; rw [if_pos c7])
set_option maxHeartbeats 4000000 in
set_option maxRecDepth 100000 in
theorem c_X7_nackNow {l : Launch} {Δ : zDl} {ad : zK → Nat} {P : zP} {S : zS} {X : zMem} {Q : zP} {g m : Int} (hV : zWM Q S) (hX0 : X (90, 0, 0, 0) = none) (hm : 0 ≤ m ∧ m < 80) (hg4 : 0 ≤ g ∧ g < 4) (h1 : 1 ≤ S (70, 0, 0, 0) (g * 80 + m)) : zMn l Δ yX7_nackNow cX7_nackNow 4 (some .int) 4 2 10 [.ref (ad (40, 0, 0, 0)), .int (zI g), .int (zI m)] ad (mm Δ ad P S X) (zD (some (.int (zI (mnr S g m)))) ad (mm Δ ad P (mnk S g m) X)) := by
  refine zMn_of (by decide) (Nat.le_of_ble_eq_true rfl) (fun Γ hl hΔ hF => ?_)
  subst hl hΔ
  show G Γ _ _ _ RX7 _ _ _ _ _ [(0, .ref (ad (40, 0, 0, 0))), (1, .int (zI g)), (2, .int (zI m))] []
  have hq := hV.q
  have hf1 := hV.f1
  have hf2 := hV.f2
  have h70 := hV.b70 (g * 80 + m)
  refine G_iload_n (pc := 0) 1 1 dX7_nackNow_0 rfl rfl ?_
  refine G_bipush (pc := 1) dX7_nackNow_1 (by decide) ?_
  refine G_imul (pc := 3) dX7_nackNow_3 ?_
  refine G_iload_n (pc := 4) 2 2 dX7_nackNow_4 rfl rfl ?_
  refine G_iadd (pc := 5) dX7_nackNow_5 ?_
  refine G_istore_n (pc := 6) 3 [(3, .int (zI ((g * 80) + m))), (0, .ref (ad (40, 0, 0, 0))), (1, .int (zI g)), (2, .int (zI m))] dX7_nackNow_6 rfl (by decide) rfl ?_
  refine G_aload_n (pc := 7) 0 1 dX7_nackNow_7 rfl rfl ?_
  refine G_iconst (pc := 8) dX7_nackNow_8 ?_
  refine G_iload_n (pc := 9) 1 2 dX7_nackNow_9 rfl rfl ?_
  refine G_iload_n (pc := 10) 2 3 dX7_nackNow_10 rfl rfl ?_
  refine G_callVvA (pc := 11) gk_X7_213 dX7_nackNow_11 mg_40 rfl (c_X7_write (Q := Q) (by first | assumption | omega | exact ⟨by omega, by omega⟩ | exact hS _ _ | exact hT _ _) (by first | assumption | omega | exact ⟨by omega, by omega⟩ | exact hS _ _ | exact hT _ _) (by first | assumption | omega | exact ⟨by omega, by omega⟩ | exact hS _ _ | exact hT _ _) (by first | assumption | omega | exact ⟨by omega, by omega⟩ | exact hS _ _ | exact hT _ _) (by first | assumption | omega | exact ⟨by omega, by omega⟩ | exact hS _ _ | exact hT _ _)) rfl rfl (Nat.le_of_ble_eq_true rfl) ⟨⟨Nat.le_of_ble_eq_true rfl, Nat.le_of_ble_eq_true rfl⟩, (by show 0 + 1 ≤ 2; omega), (by show 0 + 5 ≤ 10; omega)⟩ ?_
  show G Γ _ _ _ _ _ _ (1) (5) _ _ _
  refine G_name (fun S1_11 hS1_11 => ?_)
  have hVS1_11 : zWM Q S1_11 := by rw [hS1_11]; exact mwr_W hV (by first | assumption | exact ⟨by omega, by omega⟩) (by first | assumption | exact ⟨by omega, by omega⟩)
  have hzt : S1_11 (70, 0, 0, 0) (g * 80 + m) = S (70, 0, 0, 0) (g * 80 + m) := by rw [hS1_11]; exact mwr_70
  have hz1 : S1_11 (40, 0, 0, 0) 1 = S (40, 0, 0, 0) 1 := by rw [hS1_11]; exact mwr_40 (by decide)
  have hz2 : S1_11 (40, 0, 0, 0) 2 = S (40, 0, 0, 0) 2 := by rw [hS1_11]; exact mwr_40 (by decide)
  refine G_aload_n (pc := 14) 0 1 dX7_nackNow_14 rfl rfl ?_
  refine G_getf (pc := 15) fl_X7_84 dX7_nackNow_15 mg_40 rfl ?_
  refine G_iload_n (pc := 18) 3 0 dX7_nackNow_18 rfl rfl ?_
  refine G_iald (pc := 19) dX7_nackNow_19 mg_70 ⟨by omega, by omega, by omega, by omega⟩ ?_
  have hb19 := hVS1_11.b70 ((g * 80) + m)
  refine G_iconst (pc := 20) dX7_nackNow_20 ?_
  refine G_icmp_ne (pc := 21) 40 dX7_nackNow_21 (by decide) (by first | exact hS _ _ | exact hT _ _ | exact ⟨by omega, by omega⟩ | assumption | exact zWM.r (by assumption) _ _ (by decide)) (by first | exact hS _ _ | exact hT _ _ | exact ⟨by omega, by omega⟩ | assumption | exact zWM.r (by assumption) _ _ (by decide)) (fun c21 => ?_) (fun c21 => ?_)
  · refine G_aload_n (pc := 40) 0 1 dX7_nackNow_40 rfl rfl ?_
    refine G_getf (pc := 41) fl_X7_81 dX7_nackNow_41 mg_40 rfl ?_
    refine G_iload_n (pc := 44) 3 0 dX7_nackNow_44 rfl rfl ?_
    refine G_iconst (pc := 45) dX7_nackNow_45 ?_
    refine G_iast (pc := 46) dX7_nackNow_46 mg_69 ⟨by omega, by omega, by omega, by omega⟩ (mp_69 _ _) ?_
    refine G_name (fun S2_46 hS2_46 => ?_)
    have hVS2_46 : zWM Q S2_46 := by rw [hS2_46]; exact hVS1_11.s69 ⟨by omega, by omega⟩
    have hz3 : S2_46 (70, 0, 0, 0) (g * 80 + m) = S (70, 0, 0, 0) (g * 80 + m) := by rw [hS2_46, zst_k _ _ _ _ (by simp)]; exact hzt
    have hz4 : S2_46 (40, 0, 0, 0) 1 = S (40, 0, 0, 0) 1 := by rw [hS2_46, zst_k _ _ _ _ (by simp)]; exact hz1
    have hz5 : S2_46 (40, 0, 0, 0) 2 = S (40, 0, 0, 0) 2 := by rw [hS2_46, zst_k _ _ _ _ (by simp)]; exact hz2
    refine G_aload_n (pc := 47) 0 1 dX7_nackNow_47 rfl rfl ?_
    refine G_getf (pc := 48) fl_X7_87 dX7_nackNow_48 mg_40 rfl ?_
    refine G_iload_n (pc := 51) 3 0 dX7_nackNow_51 rfl rfl ?_
    refine G_aload_n (pc := 52) 0 1 dX7_nackNow_52 rfl rfl ?_
    refine G_getf (pc := 53) fl_X7_143 dX7_nackNow_53 mg_40 rfl ?_
    have hb53 := hVS2_46.f1
    refine G_aload_n (pc := 56) 0 1 dX7_nackNow_56 rfl rfl ?_
    refine G_getf (pc := 57) fl_X7_7 dX7_nackNow_57 mg_40 rfl ?_
    have hb57 := hVS2_46.f2
    refine G_iconst (pc := 60) dX7_nackNow_60 ?_
    refine G_aload_n (pc := 61) 0 1 dX7_nackNow_61 rfl rfl ?_
    refine G_getf (pc := 62) fl_X7_84 dX7_nackNow_62 mg_40 rfl ?_
    refine G_iload_n (pc := 65) 3 0 dX7_nackNow_65 rfl rfl ?_
    refine G_iald (pc := 66) dX7_nackNow_66 mg_70 ⟨by omega, by omega, by omega, by omega⟩ ?_
    have hb66 := hVS2_46.b70 ((g * 80) + m)
    refine G_iconst (pc := 67) dX7_nackNow_67 ?_
    refine G_isub (pc := 68) dX7_nackNow_68 ?_
    have hsh : 1 ≤ zsh 1 (S2_46 (70, 0, 0, 0) (g * 80 + m) - 1) ∧ zsh 1 (S2_46 (70, 0, 0, 0) (g * 80 + m) - 1) ≤ 2 := by unfold zsh; split <;> omega
    have hsm : 0 ≤ S (40, 0, 0, 0) 2 * zsh 1 (S2_46 (70, 0, 0, 0) (g * 80 + m) - 1) ∧ S (40, 0, 0, 0) 2 * zsh 1 (S2_46 (70, 0, 0, 0) (g * 80 + m) - 1) ≤ 40 := by unfold zsh; split <;> omega
    rw [← hz5] at hsm
    refine G_ishl (pc := 69) dX7_nackNow_69 (by omega) ?_
    refine G_imul (pc := 70) dX7_nackNow_70 ?_
    refine G_iadd (pc := 71) dX7_nackNow_71 ?_
    refine G_iast (pc := 72) dX7_nackNow_72 mg_71 ⟨by omega, by omega, by omega, by omega⟩ (mp_71 _ _) ?_
    refine G_name (fun S3_72 hS3_72 => ?_)
    have hVS3_72 : zWM Q S3_72 := by rw [hS3_72]; exact hVS2_46.s71 ⟨by omega, by omega⟩
    refine G_aload_n (pc := 73) 0 1 dX7_nackNow_73 rfl rfl ?_
    refine G_getf (pc := 74) fl_X7_87 dX7_nackNow_74 mg_40 rfl ?_
    refine G_iload_n (pc := 77) 3 0 dX7_nackNow_77 rfl rfl ?_
    refine G_iald (pc := 78) dX7_nackNow_78 mg_71 ⟨by omega, by omega, by omega, by omega⟩ ?_
    have hb78 := hVS3_72.b71 ((g * 80) + m)
    exact G_iret_m (pc := 79) hF dX7_nackNow_79 ⟨Nat.le_of_ble_eq_true rfl, Nat.le_of_ble_eq_true rfl⟩ (by rw [hS3_72, zst_s]; unfold mnr; rw [if_neg (by omega), hz3, hz4, hz5]) (by rw [hS3_72, hz3, hz4, hz5, hS2_46, hS1_11]; unfold mnk; rw [if_neg (by omega)])
  · refine G_aload_n (pc := 24) 0 1 dX7_nackNow_24 rfl rfl ?_
    refine G_getf (pc := 25) fl_X7_81 dX7_nackNow_25 mg_40 rfl ?_
    refine G_iload_n (pc := 28) 3 0 dX7_nackNow_28 rfl rfl ?_
    refine G_iconst (pc := 29) dX7_nackNow_29 ?_
    refine G_iast (pc := 30) dX7_nackNow_30 mg_69 ⟨by omega, by omega, by omega, by omega⟩ (mp_69 _ _) ?_
    refine G_name (fun S4_30 hS4_30 => ?_)
    have hVS4_30 : zWM Q S4_30 := by rw [hS4_30]; exact hVS1_11.s69 ⟨by omega, by omega⟩
    refine G_aload_n (pc := 31) 0 1 dX7_nackNow_31 rfl rfl ?_
    refine G_iconst (pc := 32) dX7_nackNow_32 ?_
    refine G_iload_n (pc := 33) 1 2 dX7_nackNow_33 rfl rfl ?_
    refine G_iload_n (pc := 34) 2 3 dX7_nackNow_34 rfl rfl ?_
    refine G_callVvA (pc := 35) gk_X7_213 dX7_nackNow_35 mg_40 rfl (c_X7_write (Q := Q) (by first | assumption | omega | exact ⟨by omega, by omega⟩ | exact hS _ _ | exact hT _ _) (by first | assumption | omega | exact ⟨by omega, by omega⟩ | exact hS _ _ | exact hT _ _) (by first | assumption | omega | exact ⟨by omega, by omega⟩ | exact hS _ _ | exact hT _ _) (by first | assumption | omega | exact ⟨by omega, by omega⟩ | exact hS _ _ | exact hT _ _) (by first | assumption | omega | exact ⟨by omega, by omega⟩ | exact hS _ _ | exact hT _ _)) rfl rfl (Nat.le_of_ble_eq_true rfl) ⟨⟨Nat.le_of_ble_eq_true rfl, Nat.le_of_ble_eq_true rfl⟩, (by show 1 + 1 ≤ 2; omega), (by show 5 + 5 ≤ 10; omega)⟩ ?_
    show G Γ _ _ _ _ _ _ (2) (10) _ _ _
    refine G_name (fun S5_35 hS5_35 => ?_)
    have hVS5_35 : zWM Q S5_35 := by rw [hS5_35]; exact mwr_W hVS4_30 (by first | assumption | exact ⟨by omega, by omega⟩) (by first | assumption | exact ⟨by omega, by omega⟩)
    refine G_iconst (pc := 38) dX7_nackNow_38 ?_
    exact G_iret_m (pc := 39) hF dX7_nackNow_39 ⟨Nat.le_of_ble_eq_true rfl, Nat.le_of_ble_eq_true rfl⟩ (by unfold mnr; rw [if_pos (by omega)]) (by rw [hS5_35, hS4_30, hS1_11]; unfold mnk; rw [if_pos (by omega)])
set_option maxHeartbeats 4000000 in
set_option maxRecDepth 100000 in
theorem c_X7_dropOld {l : Launch} {Δ : zDl} {ad : zK → Nat} {P : zP} {S : zS} {X : zMem} {Q : zP} {t p y : Int} (hV : zWM Q S) (hX0 : X (90, 0, 0, 0) = none) (ht : 0 ≤ t ∧ t < Q 0 0 0) (hp : 0 ≤ p ∧ p < Q 1 t 0) (h61 : Q 61 0 0 = P 61 0 0) (hy : 0 ≤ y ∧ y ≤ 200) : zMn l Δ yX7_dropOld cX7_dropOld 4 none 3 0 0 [.ref (ad (40, 0, 0, 0)), .int (zI (t * 4 + p)), .int (zI y)] ad (mm Δ ad P S X) (zD none ad (mm Δ ad P (mdo Q t p y (Q 2 t p - S (47, 0, 0, 0) (t * 4 + p)).toNat S) X)) := by
  refine zMn_of (by decide) (Nat.le_of_ble_eq_true rfl) (fun Γ hl hΔ hF => ?_)
  subst hl hΔ
  show G Γ _ _ _ RX7 _ _ _ _ _ [(0, .ref (ad (40, 0, 0, 0))), (1, .int (zI (t * 4 + p))), (2, .int (zI y))] []
  have hq := hV.q
  have hqt := hV.qt ht
  have hpn := hV.pn ht
  have hqm := hV.qm ht hp
  have hen := hV.en ht hp
  have L0 : ∀ (n : Nat) (T : zS), (mdo Q t p y (Q 2 t p - T (47, 0, 0, 0) (t * 4 + p)).toNat T = mdo Q t p y (Q 2 t p - S (47, 0, 0, 0) (t * 4 + p)).toNat S ∧ zWM Q T) → (Q 2 t p - T (47, 0, 0, 0) (t * 4 + p)).toNat < n → G Γ (zRm 3 0 0) cX7_dropOld 4 RX7 ad (mm (z_d Γ) ad P T X) 0 0 0 [(0, .ref (ad (40, 0, 0, 0))), (1, .int (zI (t * 4 + p))), (2, .int (zI y))] [] := by
    intro n
    induction n with
    | zero => intro  T _ hn; omega
    | succ n ih0 =>
      intro  T hi0 hn0
      obtain ⟨hz, hTV⟩ := hi0
      have hf1 := hTV.f1
      have hen2 := hTV.en ht hp
      have hst := hTV.b47 (t * 4 + p)
      refine G_iload_n (pc := 0) 2 2 dX7_dropOld_0 rfl rfl ?_
      refine G_if_le (pc := 1) 74 dX7_dropOld_1 (by decide) (by first | exact hS _ _ | exact hT _ _ | exact ⟨by omega, by omega⟩ | assumption | exact zWM.r (by assumption) _ _ (by decide)) (fun c1 => ?_) (fun c1 => ?_)
      · exact G_vret_d (pc := 74) hF dX7_dropOld_74 ⟨Nat.le_of_ble_eq_true rfl, Nat.le_of_ble_eq_true rfl⟩ (by rw [← hz, mdo_stop _ (fun h => by have h7 := h.1; omega)])
      · refine G_aload_n (pc := 4) 0 0 dX7_dropOld_4 rfl rfl ?_
        refine G_getf (pc := 5) fl_X7_23 dX7_dropOld_5 mg_40 rfl ?_
        refine G_iload_n (pc := 8) 1 1 dX7_dropOld_8 rfl rfl ?_
        refine G_iald (pc := 9) dX7_dropOld_9 mg_47 ⟨by omega, by omega, by omega, by omega⟩ ?_
        have hb9 := hTV.b47 (t * 4 + p)
        refine G_aload_n (pc := 10) 0 0 dX7_dropOld_10 rfl rfl ?_
        refine G_getf (pc := 11) fl_X7_26 dX7_dropOld_11 mg_40 rfl ?_
        refine G_iload_n (pc := 14) 1 1 dX7_dropOld_14 rfl rfl ?_
        refine G_iald (pc := 15) dX7_dropOld_15 mg_48 ⟨by omega, by omega, by omega, by omega⟩ ?_
        have hb15 := hTV.b48 (t * 4 + p)
        refine G_icmp_ge (pc := 16) 74 dX7_dropOld_16 (by decide) (by first | exact hS _ _ | exact hT _ _ | exact ⟨by omega, by omega⟩ | assumption | exact zWM.r (by assumption) _ _ (by decide)) (by first | exact hS _ _ | exact hT _ _ | exact ⟨by omega, by omega⟩ | assumption | exact zWM.r (by assumption) _ _ (by decide)) (fun c16 => ?_) (fun c16 => ?_)
        · exact G_vret_d (pc := 74) hF dX7_dropOld_74 ⟨Nat.le_of_ble_eq_true rfl, Nat.le_of_ble_eq_true rfl⟩ (by rw [← hz, mdo_stop _ (fun h => by have h7 := h.1; omega)])
        · refine G_aload_n (pc := 19) 0 0 dX7_dropOld_19 rfl rfl ?_
          refine G_iload_n (pc := 20) 1 1 dX7_dropOld_20 rfl rfl ?_
          refine G_aload_n (pc := 21) 0 0 dX7_dropOld_21 rfl rfl ?_
          refine G_getf (pc := 22) fl_X7_23 dX7_dropOld_22 mg_40 rfl ?_
          refine G_iload_n (pc := 25) 1 1 dX7_dropOld_25 rfl rfl ?_
          refine G_iald (pc := 26) dX7_dropOld_26 mg_47 ⟨by omega, by omega, by omega, by omega⟩ ?_
          have hb26 := hTV.b47 (t * 4 + p)
          refine G_callVd (pc := 27) gk_X7_113 dX7_dropOld_27 mg_40 rfl (c_X7_messageAt (Q := Q) (by first | assumption | omega | exact ⟨by omega, by omega⟩ | exact hS _ _ | exact hT _ _) (by first | assumption | omega | exact ⟨by omega, by omega⟩ | exact hS _ _ | exact hT _ _) (by first | assumption | omega | exact ⟨by omega, by omega⟩ | exact hS _ _ | exact hT _ _)) rfl rfl (Nat.le_of_ble_eq_true rfl) ⟨⟨Nat.le_of_ble_eq_true rfl, Nat.le_of_ble_eq_true rfl⟩, Nat.le_of_ble_eq_true rfl, Nat.le_of_ble_eq_true rfl⟩ ?_
          have hb27 := hTV.b59 ((t * 4 + p) * 80 + (T (47, 0, 0, 0) (t * 4 + p)))
          refine G_istore_n (pc := 30) 3 [(3, .int (zI (T (59, 0, 0, 0) ((t * 4 + p) * 80 + (T (47, 0, 0, 0) (t * 4 + p)))))), (0, .ref (ad (40, 0, 0, 0))), (1, .int (zI (t * 4 + p))), (2, .int (zI y))] dX7_dropOld_30 rfl (by decide) rfl ?_
          refine G_aload_n (pc := 31) 0 1 dX7_dropOld_31 rfl rfl ?_
          refine G_getf (pc := 32) fl_X7_48 dX7_dropOld_32 mg_40 rfl ?_
          refine G_iload_n (pc := 35) 3 0 dX7_dropOld_35 rfl rfl ?_
          refine G_iald (pc := 36) dX7_dropOld_36 mg_56 ⟨by omega, by omega, by omega, by omega⟩ ?_
          have hb36 := hTV.b56 (T (59, 0, 0, 0) ((t * 4 + p) * 80 + (T (47, 0, 0, 0) (t * 4 + p))))
          refine G_iload_n (pc := 37) 2 3 dX7_dropOld_37 rfl rfl ?_
          refine G_iadd (pc := 38) dX7_dropOld_38 ?_
          refine G_aload_n (pc := 39) 0 1 dX7_dropOld_39 rfl rfl ?_
          refine G_getf (pc := 40) fl_X7_143 dX7_dropOld_40 mg_40 rfl ?_
          have hb40 := hTV.f1
          refine G_icmp_gt (pc := 43) 55 dX7_dropOld_43 (by decide) (by first | exact hS _ _ | exact hT _ _ | exact ⟨by omega, by omega⟩ | assumption | exact zWM.r (by assumption) _ _ (by decide)) (by first | exact hS _ _ | exact hT _ _ | exact ⟨by omega, by omega⟩ | assumption | exact zWM.r (by assumption) _ _ (by decide)) (fun c43 => ?_) (fun c43 => ?_)
          · exact G_vret_d (pc := 55) hF dX7_dropOld_55 ⟨Nat.le_of_ble_eq_true rfl, Nat.le_of_ble_eq_true rfl⟩ (by rw [← hz, mdo_stop _ (fun h => by first | exact h.2.2 c52 | (have h7 := h.2.1; omega))])
          · refine G_aload_n (pc := 46) 0 1 dX7_dropOld_46 rfl rfl ?_
            refine G_iload_n (pc := 47) 3 0 dX7_dropOld_47 rfl rfl ?_
            refine G_callVd (pc := 48) gk_X7_117 dX7_dropOld_48 mg_40 rfl (c_X7_seen (Q := Q) (by first | assumption | omega | exact ⟨by omega, by omega⟩ | exact hS _ _ | exact hT _ _) (by first | assumption | omega | exact ⟨by omega, by omega⟩ | exact hS _ _ | exact hT _ _) (by first | assumption | omega | exact ⟨by omega, by omega⟩ | exact hS _ _ | exact hT _ _)) rfl rfl (Nat.le_of_ble_eq_true rfl) ⟨⟨Nat.le_of_ble_eq_true rfl, Nat.le_of_ble_eq_true rfl⟩, Nat.le_of_ble_eq_true rfl, Nat.le_of_ble_eq_true rfl⟩ ?_
            have hb48 := mS_le (S := T) (m := (T (59, 0, 0, 0) ((t * 4 + p) * 80 + (T (47, 0, 0, 0) (t * 4 + p)))))
            refine G_iconst (pc := 51) dX7_dropOld_51 ?_
            refine G_icmp_ne (pc := 52) 56 dX7_dropOld_52 (by decide) (by first | exact hS _ _ | exact hT _ _ | exact ⟨by omega, by omega⟩ | assumption | exact zWM.r (by assumption) _ _ (by decide)) (by first | exact hS _ _ | exact hT _ _ | exact ⟨by omega, by omega⟩ | assumption | exact zWM.r (by assumption) _ _ (by decide)) (fun c52 => ?_) (fun c52 => ?_)
            · have hc : mdc Q t p y T := ⟨⟨by omega, by omega⟩, by omega, c52⟩
              refine G_aload_n (pc := 56) 0 1 dX7_dropOld_56 rfl rfl ?_
              refine G_iload_n (pc := 57) 3 0 dX7_dropOld_57 rfl rfl ?_
              refine G_callVv (pc := 58) gk_X7_161 dX7_dropOld_58 mg_40 rfl (c_X7_drop (Q := Q) (by first | assumption | omega | exact ⟨by omega, by omega⟩ | exact hS _ _ | exact hT _ _) (by first | assumption | omega | exact ⟨by omega, by omega⟩ | exact hS _ _ | exact hT _ _)) rfl rfl (Nat.le_of_ble_eq_true rfl) ⟨⟨Nat.le_of_ble_eq_true rfl, Nat.le_of_ble_eq_true rfl⟩, Nat.le_of_ble_eq_true rfl, Nat.le_of_ble_eq_true rfl⟩ ?_
              refine G_name (fun S1_58 hS1_58 => ?_)
              have hVS1_58 : zWM Q S1_58 := by rw [hS1_58]; exact mdr_W hTV
              have hz7 : S1_58 (47, 0, 0, 0) (t * 4 + p) = T (47, 0, 0, 0) (t * 4 + p) := by rw [hS1_58]; exact mdr_47
              refine G_aload_n (pc := 61) 0 1 dX7_dropOld_61 rfl rfl ?_
              refine G_getf (pc := 62) fl_X7_23 dX7_dropOld_62 mg_40 rfl ?_
              refine G_iload_n (pc := 65) 1 2 dX7_dropOld_65 rfl rfl ?_
              refine G_dup2 (pc := 66) dX7_dropOld_66 rfl rfl ?_
              refine G_iald (pc := 67) dX7_dropOld_67 mg_47 ⟨by omega, by omega, by omega, by omega⟩ ?_
              have hb67 := hVS1_58.b47 (t * 4 + p)
              refine G_iconst (pc := 68) dX7_dropOld_68 ?_
              refine G_iadd (pc := 69) dX7_dropOld_69 ?_
              refine G_iast (pc := 70) dX7_dropOld_70 mg_47 ⟨by omega, by omega, by omega, by omega⟩ (mp_47 _ _) ?_
              refine G_name (fun S2_70 hS2_70 => ?_)
              have hVS2_70 : zWM Q S2_70 := by rw [hS2_70]; exact hVS1_58.s47 ⟨by omega, by omega⟩
              have hz8 : mdd T Q t p = S2_70 := by rw [hS2_70, hz7, hS1_58]; rfl
              have hz9 : S2_70 (47, 0, 0, 0) (t * 4 + p) = T (47, 0, 0, 0) (t * 4 + p) + 1 := by rw [hS2_70, zst_s, hz7]
              refine G_goto (pc := 71) 0 dX7_dropOld_71 (by decide) ?_
              refine G_perm (lv' := [(0, .ref (ad (40, 0, 0, 0))), (1, .int (zI (t * 4 + p))), (2, .int (zI y))]) [1, 2, 3] rfl ?_
              exact ih0  S2_70 ⟨by rw [← hz, show (Q 2 t p - T (47, 0, 0, 0) (t * 4 + p)).toNat = (Q 2 t p - S2_70 (47, 0, 0, 0) (t * 4 + p)).toNat + 1 by omega, mdo_go _ hc, hz8], by assumption⟩ (by omega)
            · exact G_vret_d (pc := 55) hF dX7_dropOld_55 ⟨Nat.le_of_ble_eq_true rfl, Nat.le_of_ble_eq_true rfl⟩ (by rw [← hz, mdo_stop _ (fun h => by first | exact h.2.2 c52 | (have h7 := h.2.1; omega))])
  refine G_perm (lv' := [(0, .ref (ad (40, 0, 0, 0))), (1, .int (zI (t * 4 + p))), (2, .int (zI y))]) [0, 1, 2] rfl ?_
  exact L0 _  S ⟨rfl, hV⟩ (Nat.lt_succ_self _)
set_option maxHeartbeats 4000000 in
set_option maxRecDepth 100000 in
theorem c_X7_cleaned {l : Launch} {Δ : zDl} {ad : zK → Nat} {P : zP} {S : zS} {X : zMem} {Q : zP} {t b : Int} (hV : zWM Q S) (hX0 : X (90, 0, 0, 0) = none) (ht : 0 ≤ t ∧ t < Q 0 0 0) (h61 : Q 61 0 0 = P 61 0 0) (hb : zR b) : zMn l Δ yX7_cleaned cX7_cleaned 9 (some .int) 4 4 40 [.ref (ad (40, 0, 0, 0)), .int (zI t), .int (zI b)] ad (mm Δ ad P S X) (zD (some (.int (zI ((mcl Q b t (S, 0)).2)))) ad (mm Δ ad P ((mcl Q b t (S, 0)).1) X)) := by
  refine zMn_of (by decide) (Nat.le_of_ble_eq_true rfl) (fun Γ hl hΔ hF => ?_)
  subst hl hΔ
  show G Γ _ _ _ RX7 _ _ _ _ _ [(0, .ref (ad (40, 0, 0, 0))), (1, .int (zI t)), (2, .int (zI b))] []
  have hq := hV.q
  have hqt := hV.qt ht
  have hpn := hV.pn ht
  refine G_iconst (pc := 0) dX7_cleaned_0 ?_
  refine G_istore_ne (pc := 1) 3 (fun zw => [(3, .int (zI zw)), (0, .ref (ad (40, 0, 0, 0))), (1, .int (zI t)), (2, .int (zI b))]) dX7_cleaned_1 rfl (by decide) (fun _ => rfl) (fun v1 e1 => ?_)
  refine G_iload_n (pc := 2) 1 2 dX7_cleaned_2 rfl rfl ?_
  refine G_iconst (pc := 3) dX7_cleaned_3 ?_
  refine G_imul (pc := 4) dX7_cleaned_4 ?_
  refine G_istore_e (pc := 5) (fun zw => [(4, .int (zI zw)), (3, .int (zI v1)), (0, .ref (ad (40, 0, 0, 0))), (1, .int (zI t)), (2, .int (zI b))]) dX7_cleaned_5 (by decide) (fun _ => rfl) (fun v5 e5 => ?_)
  have L7 : ∀ (n : Nat) (m : Int) (w : Int) (nc ns : Nat) (T : zS), (((t * 4 ≤ w ∧ w ≤ (t * 4 + Q 1 t 0)) ∧ nc + ((t * 4 + Q 1 t 0) - w).toNat ≤ 4 ∧ ns + 10 * ((t * 4 + Q 1 t 0) - w).toNat ≤ 40) ∧ lp (mcw Q b) w (t * 4 + Q 1 t 0) (T, m) = mcl Q b t (S, 0) ∧ zWM Q T) → ((t * 4 + Q 1 t 0) - w).toNat < n → G Γ (zRm 4 4 40) cX7_cleaned 9 RX7 ad (mm (z_d Γ) ad P T X) nc ns 7 [(0, .ref (ad (40, 0, 0, 0))), (1, .int (zI t)), (2, .int (zI b)), (3, .int (zI m)), (4, .int (zI w))] [] := by
    intro n
    induction n with
    | zero => intro m w nc ns T _ hn; omega
    | succ n ih7 =>
      intro m w nc ns T hi7 hn7
      obtain ⟨hw0, hz, hTV⟩ := hi7
      have hpn2 := hTV.pn ht
      refine G_iload (pc := 7) 4 dX7_cleaned_7 rfl ?_
      refine G_iload_n (pc := 9) 1 1 dX7_cleaned_9 rfl rfl ?_
      refine G_iconst (pc := 10) dX7_cleaned_10 ?_
      refine G_imul (pc := 11) dX7_cleaned_11 ?_
      refine G_aload_n (pc := 12) 0 0 dX7_cleaned_12 rfl rfl ?_
      refine G_getf (pc := 13) fl_X7_16 dX7_cleaned_13 mg_40 rfl ?_
      refine G_iload_n (pc := 16) 1 1 dX7_cleaned_16 rfl rfl ?_
      refine G_iald (pc := 17) dX7_cleaned_17 mg_45 ⟨by omega, by omega, by omega, by omega⟩ ?_
      have hb17 := hTV.b45 (t)
      refine G_iadd (pc := 18) dX7_cleaned_18 ?_
      refine G_icmp_ge (pc := 19) 139 dX7_cleaned_19 (by decide) (by first | exact hS _ _ | exact hT _ _ | exact ⟨by omega, by omega⟩ | assumption | exact zWM.r (by assumption) _ _ (by decide)) (by first | exact hS _ _ | exact hT _ _ | exact ⟨by omega, by omega⟩ | assumption | exact zWM.r (by assumption) _ _ (by decide)) (fun c19 => ?_) (fun c19 => ?_)
      · have hz3 := hz
        rw [lp_end (a := w) (by omega)] at hz3
        refine G_iload_n (pc := 139) 3 3 dX7_cleaned_139 rfl rfl ?_
        exact G_iret_m (pc := 140) hF dX7_cleaned_140 ⟨by omega, by omega⟩ (by rw [← hz3]) (by rw [← hz3])
      · refine G_aload_n (pc := 22) 0 0 dX7_cleaned_22 rfl rfl ?_
        refine G_iload (pc := 23) 4 dX7_cleaned_23 rfl ?_
        refine G_callVd (pc := 25) gk_X7_158 dX7_cleaned_25 mg_40 rfl (c_X7_stableNow (Q := Q) (by first | assumption | omega | exact ⟨by omega, by omega⟩ | exact hS _ _ | exact hT _ _) (by first | assumption | omega | exact ⟨by omega, by omega⟩ | exact hS _ _ | exact hT _ _) (by first | assumption | omega | exact ⟨by omega, by omega⟩ | exact hS _ _ | exact hT _ _)) rfl rfl (Nat.le_of_ble_eq_true rfl) ⟨⟨Nat.le_of_ble_eq_true rfl, Nat.le_of_ble_eq_true rfl⟩, (by show nc + 0 ≤ 4; omega), (by show ns + 0 ≤ 40; omega)⟩ ?_
        have hb25 := fi_le (Q := mEq T w) (a := 0) (n := T (48, 0, 0, 0) w) (hTV.b48 w).1
        have hb25 : 0 ≤ mEn T w ∧ mEn T w ≤ T (48, 0, 0, 0) w := hb25
        refine G_istore (pc := 28) [(5, .int (zI (mEn T w))), (0, .ref (ad (40, 0, 0, 0))), (1, .int (zI t)), (2, .int (zI b)), (3, .int (zI m)), (4, .int (zI w))] dX7_cleaned_28 (by decide) rfl ?_
        refine G_bipush (pc := 30) dX7_cleaned_30 (by decide) ?_
        refine G_newZ (pc := 32) (N := 10) (lvf := fun ad => [(5, .int (zI (mEn T w))), (0, .ref (ad (40, 0, 0, 0))), (1, .int (zI t)), (2, .int (zI b)), (3, .int (zI m)), (4, .int (zI w))]) (stf := fun ad => []) hX0 dX7_cleaned_32 rfl ⟨by omega, by omega⟩ ⟨by show nc + 1 ≤ 4; omega, by show ns + 10 ≤ 40; omega⟩ (fun ad' h => ⟨by rw [h (40, 0, 0, 0) (by decide)], rfl⟩) (fun ad1 had1 => ?_)
        show G Γ _ _ _ _ _ _ (nc + 1) (ns + 10) _ _ _
        refine G_astore (pc := 34) [(6, .ref (ad1 (90, 0, 0, 0))), (5, .int (zI (mEn T w))), (0, .ref (ad1 (40, 0, 0, 0))), (1, .int (zI t)), (2, .int (zI b)), (3, .int (zI m)), (4, .int (zI w))] dX7_cleaned_34 (by decide) rfl ?_
        refine G_iload (pc := 36) 1 dX7_cleaned_36 rfl ?_
        refine G_iconst (pc := 38) dX7_cleaned_38 ?_
        refine G_isub (pc := 39) dX7_cleaned_39 ?_
        refine G_istore_e (pc := 40) (fun zw => [(7, .int (zI zw)), (6, .ref (ad1 (90, 0, 0, 0))), (5, .int (zI (mEn T w))), (0, .ref (ad1 (40, 0, 0, 0))), (1, .int (zI t)), (2, .int (zI b)), (3, .int (zI m)), (4, .int (zI w))]) dX7_cleaned_40 (by decide) (fun _ => rfl) (fun v40 e40 => ?_)
        have h48 := hTV.b48 w
        have hE9 := fi_le (Q := mEq T w) (a := 0) (n := T (48, 0, 0, 0) w) h48.1
        have hE : 0 ≤ mEn T w ∧ mEn T w ≤ T (48, 0, 0, 0) w := hE9
        have L42 : ∀ (n : Nat) (k : Int) (o : Int) (F : Int → Int) (T2 : zS), ((-1 ≤ o ∧ o < mEn T w) ∧ mcN Q b w (o + 1).toNat (T2, F, k) = mcN Q b w (mEn T w).toNat (T, (fun _ => 0), m) ∧ zWM Q T2 ∧ ∀ j, F j = 0 ∨ F j = 1) → (o + 1).toNat < n → G Γ (zRm 4 4 40) cX7_cleaned 9 RX7 ad1 (mm (z_d Γ) ad1 P T2 (zTm X ((z_d Γ).2.1 1) 10 F)) (nc + 1) (ns + 10) 42 [(0, .ref (ad1 (40, 0, 0, 0))), (1, .int (zI t)), (2, .int (zI b)), (3, .int (zI k)), (4, .int (zI w)), (5, .int (zI (mEn T w))), (6, .ref (ad1 (90, 0, 0, 0))), (7, .int (zI o))] [] := by
          intro n
          induction n with
          | zero => intro k o F T2 _ hn; omega
          | succ n ih42 =>
            intro k o F T2 hi42 hn42
            obtain ⟨ho0, hz2, hT2V, hF01⟩ := hi42
            refine G_iload (pc := 42) 7 dX7_cleaned_42 rfl ?_
            refine G_if_lt (pc := 44) 133 dX7_cleaned_44 (by decide) (by first | exact hS _ _ | exact hT _ _ | exact ⟨by omega, by omega⟩ | assumption | exact zWM.r (by assumption) _ _ (by decide)) (fun c44 => ?_) (fun c44 => ?_)
            · have hz5 : mcw Q b w (T, m) = (T2, k) := by unfold mcw; rw [← hz2, show (o + 1).toNat = 0 by omega]; rfl
              refine G_iinc_e (pc := 133) 4 (fun zw => [(4, .int (zI zw)), (0, .ref (ad1 (40, 0, 0, 0))), (1, .int (zI t)), (2, .int (zI b)), (3, .int (zI k)), (5, .int (zI (mEn T w))), (6, .ref (ad1 (90, 0, 0, 0))), (7, .int (zI o))]) dX7_cleaned_133 rfl (by decide) (fun _ => rfl) (fun v133 e133 => ?_)
              refine G_goto (pc := 136) 7 dX7_cleaned_136 (by decide) ?_
              refine G_drop hX0 (by decide) had1 ?_
              rw [had1 (40, 0, 0, 0) (by decide)]
              refine G_perm (lv' := [(0, .ref (ad (40, 0, 0, 0))), (1, .int (zI t)), (2, .int (zI b)), (3, .int (zI k)), (4, .int (zI v133))]) [1, 2, 3, 4, 0] rfl ?_
              exact ih7 k v133 (nc + 1) (ns + 10) T2 ⟨⟨by omega, by omega, by omega⟩, by rw [e133, ← hz, lp_step (a := w) (n := (t * 4 + Q 1 t 0)) (by omega), hz5], hT2V⟩ (by omega)
            · refine G_aload_n (pc := 47) 0 0 dX7_cleaned_47 rfl rfl ?_
              refine G_iload (pc := 48) 4 dX7_cleaned_48 rfl ?_
              refine G_iload (pc := 50) 7 dX7_cleaned_50 rfl ?_
              refine G_callVd (pc := 52) gk_X7_113 dX7_cleaned_52 mg_40 rfl (c_X7_messageAt (Q := Q) (by first | assumption | omega | exact ⟨by omega, by omega⟩ | exact hS _ _ | exact hT _ _) (by first | assumption | omega | exact ⟨by omega, by omega⟩ | exact hS _ _ | exact hT _ _) (by first | assumption | omega | exact ⟨by omega, by omega⟩ | exact hS _ _ | exact hT _ _)) rfl rfl (Nat.le_of_ble_eq_true rfl) ⟨⟨Nat.le_of_ble_eq_true rfl, Nat.le_of_ble_eq_true rfl⟩, (by show nc + 1 + 0 ≤ 4; omega), (by show ns + 10 + 0 ≤ 40; omega)⟩ ?_
              have hb52 := hT2V.b59 (w * 80 + o)
              refine G_istore (pc := 55) [(8, .int (zI (T2 (59, 0, 0, 0) (w * 80 + o)))), (0, .ref (ad1 (40, 0, 0, 0))), (1, .int (zI t)), (2, .int (zI b)), (3, .int (zI k)), (4, .int (zI w)), (5, .int (zI (mEn T w))), (6, .ref (ad1 (90, 0, 0, 0))), (7, .int (zI o))] dX7_cleaned_55 (by decide) rfl ?_
              refine G_aload_n (pc := 57) 0 1 dX7_cleaned_57 rfl rfl ?_
              refine G_iload (pc := 58) 0 dX7_cleaned_58 rfl ?_
              refine G_callVd (pc := 60) gk_X7_117 dX7_cleaned_60 mg_40 rfl (c_X7_seen (Q := Q) (by first | assumption | omega | exact ⟨by omega, by omega⟩ | exact hS _ _ | exact hT _ _) (by first | assumption | omega | exact ⟨by omega, by omega⟩ | exact hS _ _ | exact hT _ _) (by first | assumption | omega | exact ⟨by omega, by omega⟩ | exact hS _ _ | exact hT _ _)) rfl rfl (Nat.le_of_ble_eq_true rfl) ⟨⟨Nat.le_of_ble_eq_true rfl, Nat.le_of_ble_eq_true rfl⟩, (by show nc + 1 + 0 ≤ 4; omega), (by show ns + 10 + 0 ≤ 40; omega)⟩ ?_
              have hb60 := mS_le (S := T2) (m := (T2 (59, 0, 0, 0) (w * 80 + o)))
              refine G_if_ne (pc := 63) 127 dX7_cleaned_63 (by decide) (by first | exact hS _ _ | exact hT _ _ | exact ⟨by omega, by omega⟩ | assumption | exact zWM.r (by assumption) _ _ (by decide)) (fun c63 => ?_) (fun c63 => ?_)
              · have hz7 : mc1 Q b w o (T2, F, k) = (T2, F, k) := if_pos (Or.inl c63)
                first | (have hz7 : mc1 Q b w o (T2, F, k) = (T2, F, k) := by unfold mc1; rw [if_neg hA]; first | (rw [if_neg hB, hF126, hk54]) | (rw [if_pos hB2, if_pos c107, hF126, hk54, e103]) | (rw [if_pos hB2, if_neg c107, hF126, hk54, e103, hT2])) | skip
                refine G_iinc_e (pc := 127) 8 (fun zw => [(7, .int (zI zw)), (8, .int (zI (T2 (59, 0, 0, 0) (w * 80 + o)))), (0, .ref (ad1 (40, 0, 0, 0))), (1, .int (zI t)), (2, .int (zI b)), (3, .int (zI k)), (4, .int (zI w)), (5, .int (zI (mEn T w))), (6, .ref (ad1 (90, 0, 0, 0)))]) dX7_cleaned_127 rfl (by decide) (fun _ => rfl) (fun v127 e127 => ?_)
                refine G_goto (pc := 130) 42 dX7_cleaned_130 (by decide) ?_
                refine G_perm (lv' := [(0, .ref (ad1 (40, 0, 0, 0))), (1, .int (zI t)), (2, .int (zI b)), (3, .int (zI k)), (4, .int (zI w)), (5, .int (zI (mEn T w))), (6, .ref (ad1 (90, 0, 0, 0))), (7, .int (zI v127))]) [2, 3, 4, 5, 6, 7, 8, 0] rfl ?_
                exact ih42 k v127 F T2 ⟨by omega, by rw [← hz2, e127, show (o + 1).toNat = (o + -1 + 1).toNat + 1 by omega]; show _ = mcN Q b w _ (mc1 Q b w ((o + -1 + 1).toNat : Int) (T2, F, k)); rw [show (((o + -1 + 1).toNat : Nat) : Int) = o by omega, hz7], by assumption, by first | exact hF01 | (intro j; rw [hF126]; exact zup01 hF01 j)⟩ (by omega)
              · refine G_aload_n (pc := 66) 0 1 dX7_cleaned_66 rfl rfl ?_
                refine G_getf (pc := 67) fl_X7_42 dX7_cleaned_67 mg_40 rfl ?_
                refine G_iload (pc := 70) 0 dX7_cleaned_70 rfl ?_
                refine G_iald (pc := 72) dX7_cleaned_72 mg_54 ⟨by omega, by omega, by omega, by omega⟩ ?_
                have hb72 := hT2V.b54 (T2 (59, 0, 0, 0) (w * 80 + o))
                refine G_iconst (pc := 73) dX7_cleaned_73 ?_
                refine G_icmp_ne (pc := 74) 80 dX7_cleaned_74 (by decide) (by first | exact hS _ _ | exact hT _ _ | exact ⟨by omega, by omega⟩ | assumption | exact zWM.r (by assumption) _ _ (by decide)) (by first | exact hS _ _ | exact hT _ _ | exact ⟨by omega, by omega⟩ | assumption | exact zWM.r (by assumption) _ _ (by decide)) (fun c74 => ?_) (fun c74 => ?_)
                · have hA : ¬ (¬ mS T2 (T2 (59, 0, 0, 0) (w * 80 + o)) = 0 ∨ T2 (54, 0, 0, 0) (T2 (59, 0, 0, 0) (w * 80 + o)) = -1) := fun h => h.elim (fun q => q c63) c74
                  have hb54 := hT2V.b54 (T2 (59, 0, 0, 0) (w * 80 + o))
                  refine G_aload (pc := 80) 7 dX7_cleaned_80 rfl ?_
                  refine G_aload_n (pc := 82) 0 1 dX7_cleaned_82 rfl rfl ?_
                  refine G_getf (pc := 83) fl_X7_42 dX7_cleaned_83 mg_40 rfl ?_
                  refine G_iload (pc := 86) 0 dX7_cleaned_86 rfl ?_
                  refine G_iald (pc := 88) dX7_cleaned_88 mg_54 ⟨by omega, by omega, by omega, by omega⟩ ?_
                  have hb88 := hT2V.b54 (T2 (59, 0, 0, 0) (w * 80 + o))
                  refine G_tzal (pc := 89) dX7_cleaned_89 ⟨by omega, by omega, by omega, by omega⟩ ?_
                  have hf01 := hF01 ((T2 (54, 0, 0, 0) (T2 (59, 0, 0, 0) (w * 80 + o))))
                  refine G_if_eq (pc := 90) 116 dX7_cleaned_90 (by decide) (by first | exact hS _ _ | exact hT _ _ | exact ⟨by omega, by omega⟩ | assumption | exact zWM.r (by assumption) _ _ (by decide)) (fun c90 => ?_) (fun c90 => ?_)
                  · have hB : ¬ (¬ F (T2 (54, 0, 0, 0) (T2 (59, 0, 0, 0) (w * 80 + o))) = 0 ∧ T2 (58, 0, 0, 0) (T2 (59, 0, 0, 0) (w * 80 + o)) = 0) := fun h => h.1 c90
                    have hk54 : T2 (54, 0, 0, 0) (T2 (59, 0, 0, 0) (w * 80 + o)) = T2 (54, 0, 0, 0) (T2 (59, 0, 0, 0) (w * 80 + o)) := by first | rfl | (rw [hT2]; exact mdr_54)
                    refine G_aload (pc := 116) 7 dX7_cleaned_116 rfl ?_
                    refine G_aload_n (pc := 118) 0 1 dX7_cleaned_118 rfl rfl ?_
                    refine G_getf (pc := 119) fl_X7_42 dX7_cleaned_119 mg_40 rfl ?_
                    refine G_iload (pc := 122) 0 dX7_cleaned_122 rfl ?_
                    refine G_iald (pc := 124) dX7_cleaned_124 mg_54 ⟨by omega, by omega, by omega, by omega⟩ ?_
                    have hb124 := hT2V.b54 (T2 (59, 0, 0, 0) (w * 80 + o))
                    refine G_iconst (pc := 125) dX7_cleaned_125 ?_
                    refine G_tzas (pc := 126) dX7_cleaned_126 ⟨by omega, by omega, by omega, by omega⟩ (by first | exact zb_ite | omega) (fun F126 hF126 => ?_)
                    first | (have hz7 : mc1 Q b w o (T2, F, k) = (T2, F126, k) := by unfold mc1; rw [if_neg hA]; first | (rw [if_neg hB, hF126, hk54]) | (rw [if_pos hB2, if_pos c107, hF126, hk54, e103]) | (rw [if_pos hB2, if_neg c107, hF126, hk54, e103, hT2])) | skip
                    refine G_iinc_e (pc := 127) 8 (fun zw => [(7, .int (zI zw)), (8, .int (zI (T2 (59, 0, 0, 0) (w * 80 + o)))), (0, .ref (ad1 (40, 0, 0, 0))), (1, .int (zI t)), (2, .int (zI b)), (3, .int (zI k)), (4, .int (zI w)), (5, .int (zI (mEn T w))), (6, .ref (ad1 (90, 0, 0, 0)))]) dX7_cleaned_127 rfl (by decide) (fun _ => rfl) (fun v127 e127 => ?_)
                    refine G_goto (pc := 130) 42 dX7_cleaned_130 (by decide) ?_
                    refine G_perm (lv' := [(0, .ref (ad1 (40, 0, 0, 0))), (1, .int (zI t)), (2, .int (zI b)), (3, .int (zI k)), (4, .int (zI w)), (5, .int (zI (mEn T w))), (6, .ref (ad1 (90, 0, 0, 0))), (7, .int (zI v127))]) [2, 3, 4, 5, 6, 7, 8, 0] rfl ?_
                    exact ih42 k v127 F126 T2 ⟨by omega, by rw [← hz2, e127, show (o + 1).toNat = (o + -1 + 1).toNat + 1 by omega]; show _ = mcN Q b w _ (mc1 Q b w ((o + -1 + 1).toNat : Int) (T2, F, k)); rw [show (((o + -1 + 1).toNat : Nat) : Int) = o by omega, hz7], by assumption, by first | exact hF01 | (intro j; rw [hF126]; exact zup01 hF01 j)⟩ (by omega)
                  · refine G_aload_n (pc := 93) 0 1 dX7_cleaned_93 rfl rfl ?_
                    refine G_getf (pc := 94) fl_X7_54 dX7_cleaned_94 mg_40 rfl ?_
                    refine G_iload (pc := 97) 0 dX7_cleaned_97 rfl ?_
                    refine G_zald (pc := 99) dX7_cleaned_99 mg_58 ⟨by omega, by omega, by omega, by omega⟩ ?_
                    have hb99 := hT2V.b58 (T2 (59, 0, 0, 0) (w * 80 + o))
                    refine G_if_ne (pc := 100) 116 dX7_cleaned_100 (by decide) (by first | exact hS _ _ | exact hT _ _ | exact ⟨by omega, by omega⟩ | assumption | exact zWM.r (by assumption) _ _ (by decide)) (fun c100 => ?_) (fun c100 => ?_)
                    · have hB : ¬ (¬ F (T2 (54, 0, 0, 0) (T2 (59, 0, 0, 0) (w * 80 + o))) = 0 ∧ T2 (58, 0, 0, 0) (T2 (59, 0, 0, 0) (w * 80 + o)) = 0) := fun h => c100 h.2
                      have hk54 : T2 (54, 0, 0, 0) (T2 (59, 0, 0, 0) (w * 80 + o)) = T2 (54, 0, 0, 0) (T2 (59, 0, 0, 0) (w * 80 + o)) := by first | rfl | (rw [hT2]; exact mdr_54)
                      refine G_aload (pc := 116) 7 dX7_cleaned_116 rfl ?_
                      refine G_aload_n (pc := 118) 0 1 dX7_cleaned_118 rfl rfl ?_
                      refine G_getf (pc := 119) fl_X7_42 dX7_cleaned_119 mg_40 rfl ?_
                      refine G_iload (pc := 122) 0 dX7_cleaned_122 rfl ?_
                      refine G_iald (pc := 124) dX7_cleaned_124 mg_54 ⟨by omega, by omega, by omega, by omega⟩ ?_
                      have hb124 := hT2V.b54 (T2 (59, 0, 0, 0) (w * 80 + o))
                      refine G_iconst (pc := 125) dX7_cleaned_125 ?_
                      refine G_tzas (pc := 126) dX7_cleaned_126 ⟨by omega, by omega, by omega, by omega⟩ (by first | exact zb_ite | omega) (fun F126 hF126 => ?_)
                      first | (have hz7 : mc1 Q b w o (T2, F, k) = (T2, F126, k) := by unfold mc1; rw [if_neg hA]; first | (rw [if_neg hB, hF126, hk54]) | (rw [if_pos hB2, if_pos c107, hF126, hk54, e103]) | (rw [if_pos hB2, if_neg c107, hF126, hk54, e103, hT2])) | skip
                      refine G_iinc_e (pc := 127) 8 (fun zw => [(7, .int (zI zw)), (8, .int (zI (T2 (59, 0, 0, 0) (w * 80 + o)))), (0, .ref (ad1 (40, 0, 0, 0))), (1, .int (zI t)), (2, .int (zI b)), (3, .int (zI k)), (4, .int (zI w)), (5, .int (zI (mEn T w))), (6, .ref (ad1 (90, 0, 0, 0)))]) dX7_cleaned_127 rfl (by decide) (fun _ => rfl) (fun v127 e127 => ?_)
                      refine G_goto (pc := 130) 42 dX7_cleaned_130 (by decide) ?_
                      refine G_perm (lv' := [(0, .ref (ad1 (40, 0, 0, 0))), (1, .int (zI t)), (2, .int (zI b)), (3, .int (zI k)), (4, .int (zI w)), (5, .int (zI (mEn T w))), (6, .ref (ad1 (90, 0, 0, 0))), (7, .int (zI v127))]) [2, 3, 4, 5, 6, 7, 8, 0] rfl ?_
                      exact ih42 k v127 F126 T2 ⟨by omega, by rw [← hz2, e127, show (o + 1).toNat = (o + -1 + 1).toNat + 1 by omega]; show _ = mcN Q b w _ (mc1 Q b w ((o + -1 + 1).toNat : Int) (T2, F, k)); rw [show (((o + -1 + 1).toNat : Nat) : Int) = o by omega, hz7], by assumption, by first | exact hF01 | (intro j; rw [hF126]; exact zup01 hF01 j)⟩ (by omega)
                    · have hB2 : ¬ F (T2 (54, 0, 0, 0) (T2 (59, 0, 0, 0) (w * 80 + o))) = 0 ∧ T2 (58, 0, 0, 0) (T2 (59, 0, 0, 0) (w * 80 + o)) = 0 := ⟨c90, c100⟩
                      refine G_iinc_e (pc := 103) 4 (fun zw => [(3, .int (zI zw)), (8, .int (zI (T2 (59, 0, 0, 0) (w * 80 + o)))), (0, .ref (ad1 (40, 0, 0, 0))), (1, .int (zI t)), (2, .int (zI b)), (4, .int (zI w)), (5, .int (zI (mEn T w))), (6, .ref (ad1 (90, 0, 0, 0))), (7, .int (zI o))]) dX7_cleaned_103 rfl (by decide) (fun _ => rfl) (fun v103 e103 => ?_)
                      refine G_iload_n (pc := 106) 2 4 dX7_cleaned_106 rfl rfl ?_
                      refine G_if_eq (pc := 107) 116 dX7_cleaned_107 (by decide) (by first | exact hS _ _ | exact hT _ _ | exact ⟨by omega, by omega⟩ | assumption | exact zWM.r (by assumption) _ _ (by decide)) (fun c107 => ?_) (fun c107 => ?_)
                      · have hk54 : T2 (54, 0, 0, 0) (T2 (59, 0, 0, 0) (w * 80 + o)) = T2 (54, 0, 0, 0) (T2 (59, 0, 0, 0) (w * 80 + o)) := by first | rfl | (rw [hT2]; exact mdr_54)
                        refine G_aload (pc := 116) 7 dX7_cleaned_116 rfl ?_
                        refine G_aload_n (pc := 118) 0 2 dX7_cleaned_118 rfl rfl ?_
                        refine G_getf (pc := 119) fl_X7_42 dX7_cleaned_119 mg_40 rfl ?_
                        refine G_iload (pc := 122) 1 dX7_cleaned_122 rfl ?_
                        refine G_iald (pc := 124) dX7_cleaned_124 mg_54 ⟨by omega, by omega, by omega, by omega⟩ ?_
                        have hb124 := hT2V.b54 (T2 (59, 0, 0, 0) (w * 80 + o))
                        refine G_iconst (pc := 125) dX7_cleaned_125 ?_
                        refine G_tzas (pc := 126) dX7_cleaned_126 ⟨by omega, by omega, by omega, by omega⟩ (by first | exact zb_ite | omega) (fun F126 hF126 => ?_)
                        first | (have hz7 : mc1 Q b w o (T2, F, k) = (T2, F126, v103) := by unfold mc1; rw [if_neg hA]; first | (rw [if_neg hB, hF126, hk54]) | (rw [if_pos hB2, if_pos c107, hF126, hk54, e103]) | (rw [if_pos hB2, if_neg c107, hF126, hk54, e103, hT2])) | skip
                        refine G_iinc_e (pc := 127) 8 (fun zw => [(7, .int (zI zw)), (3, .int (zI v103)), (8, .int (zI (T2 (59, 0, 0, 0) (w * 80 + o)))), (0, .ref (ad1 (40, 0, 0, 0))), (1, .int (zI t)), (2, .int (zI b)), (4, .int (zI w)), (5, .int (zI (mEn T w))), (6, .ref (ad1 (90, 0, 0, 0)))]) dX7_cleaned_127 rfl (by decide) (fun _ => rfl) (fun v127 e127 => ?_)
                        refine G_goto (pc := 130) 42 dX7_cleaned_130 (by decide) ?_
                        refine G_perm (lv' := [(0, .ref (ad1 (40, 0, 0, 0))), (1, .int (zI t)), (2, .int (zI b)), (3, .int (zI v103)), (4, .int (zI w)), (5, .int (zI (mEn T w))), (6, .ref (ad1 (90, 0, 0, 0))), (7, .int (zI v127))]) [3, 4, 5, 1, 6, 7, 8, 0] rfl ?_
                        exact ih42 v103 v127 F126 T2 ⟨by omega, by rw [← hz2, e127, show (o + 1).toNat = (o + -1 + 1).toNat + 1 by omega]; show _ = mcN Q b w _ (mc1 Q b w ((o + -1 + 1).toNat : Int) (T2, F, k)); rw [show (((o + -1 + 1).toNat : Nat) : Int) = o by omega, hz7], by assumption, by first | exact hF01 | (intro j; rw [hF126]; exact zup01 hF01 j)⟩ (by omega)
                      · refine G_aload_n (pc := 110) 0 2 dX7_cleaned_110 rfl rfl ?_
                        refine G_iload (pc := 111) 1 dX7_cleaned_111 rfl ?_
                        refine G_callVv (pc := 113) gk_X7_161 dX7_cleaned_113 mg_40 rfl (c_X7_drop (Q := Q) (by first | assumption | omega | exact ⟨by omega, by omega⟩ | exact hS _ _ | exact hT _ _) (by first | assumption | omega | exact ⟨by omega, by omega⟩ | exact hS _ _ | exact hT _ _)) rfl rfl (Nat.le_of_ble_eq_true rfl) ⟨⟨Nat.le_of_ble_eq_true rfl, Nat.le_of_ble_eq_true rfl⟩, (by show nc + 1 + 0 ≤ 4; omega), (by show ns + 10 + 0 ≤ 40; omega)⟩ ?_
                        refine G_name (fun S1_113 hS1_113 => ?_)
                        have hVS1_113 : zWM Q S1_113 := by rw [hS1_113]; exact mdr_W hT2V
                        have hk54 : S1_113 (54, 0, 0, 0) (T2 (59, 0, 0, 0) (w * 80 + o)) = T2 (54, 0, 0, 0) (T2 (59, 0, 0, 0) (w * 80 + o)) := by first | rfl | (rw [hS1_113]; exact mdr_54)
                        refine G_aload (pc := 116) 7 dX7_cleaned_116 rfl ?_
                        refine G_aload_n (pc := 118) 0 2 dX7_cleaned_118 rfl rfl ?_
                        refine G_getf (pc := 119) fl_X7_42 dX7_cleaned_119 mg_40 rfl ?_
                        refine G_iload (pc := 122) 1 dX7_cleaned_122 rfl ?_
                        refine G_iald (pc := 124) dX7_cleaned_124 mg_54 ⟨by omega, by omega, by omega, by omega⟩ ?_
                        have hb124 := hVS1_113.b54 (T2 (59, 0, 0, 0) (w * 80 + o))
                        refine G_iconst (pc := 125) dX7_cleaned_125 ?_
                        refine G_tzas (pc := 126) dX7_cleaned_126 ⟨by omega, by omega, by omega, by omega⟩ (by first | exact zb_ite | omega) (fun F126 hF126 => ?_)
                        first | (have hz7 : mc1 Q b w o (T2, F, k) = (S1_113, F126, v103) := by unfold mc1; rw [if_neg hA]; first | (rw [if_neg hB, hF126, hk54]) | (rw [if_pos hB2, if_pos c107, hF126, hk54, e103]) | (rw [if_pos hB2, if_neg c107, hF126, hk54, e103, hS1_113])) | skip
                        refine G_iinc_e (pc := 127) 8 (fun zw => [(7, .int (zI zw)), (3, .int (zI v103)), (8, .int (zI (T2 (59, 0, 0, 0) (w * 80 + o)))), (0, .ref (ad1 (40, 0, 0, 0))), (1, .int (zI t)), (2, .int (zI b)), (4, .int (zI w)), (5, .int (zI (mEn T w))), (6, .ref (ad1 (90, 0, 0, 0)))]) dX7_cleaned_127 rfl (by decide) (fun _ => rfl) (fun v127 e127 => ?_)
                        refine G_goto (pc := 130) 42 dX7_cleaned_130 (by decide) ?_
                        refine G_perm (lv' := [(0, .ref (ad1 (40, 0, 0, 0))), (1, .int (zI t)), (2, .int (zI b)), (3, .int (zI v103)), (4, .int (zI w)), (5, .int (zI (mEn T w))), (6, .ref (ad1 (90, 0, 0, 0))), (7, .int (zI v127))]) [3, 4, 5, 1, 6, 7, 8, 0] rfl ?_
                        exact ih42 v103 v127 F126 S1_113 ⟨by omega, by rw [← hz2, e127, show (o + 1).toNat = (o + -1 + 1).toNat + 1 by omega]; show _ = mcN Q b w _ (mc1 Q b w ((o + -1 + 1).toNat : Int) (T2, F, k)); rw [show (((o + -1 + 1).toNat : Nat) : Int) = o by omega, hz7], by assumption, by first | exact hF01 | (intro j; rw [hF126]; exact zup01 hF01 j)⟩ (by omega)
                · have hz7 : mc1 Q b w o (T2, F, k) = (T2, F, k) := if_pos (Or.inr c74)
                  refine G_goto (pc := 77) 127 dX7_cleaned_77 (by decide) ?_
                  first | (have hz7 : mc1 Q b w o (T2, F, k) = (T2, F, k) := by unfold mc1; rw [if_neg hA]; first | (rw [if_neg hB, hF126, hk54]) | (rw [if_pos hB2, if_pos c107, hF126, hk54, e103]) | (rw [if_pos hB2, if_neg c107, hF126, hk54, e103, hT2])) | skip
                  refine G_iinc_e (pc := 127) 8 (fun zw => [(7, .int (zI zw)), (8, .int (zI (T2 (59, 0, 0, 0) (w * 80 + o)))), (0, .ref (ad1 (40, 0, 0, 0))), (1, .int (zI t)), (2, .int (zI b)), (3, .int (zI k)), (4, .int (zI w)), (5, .int (zI (mEn T w))), (6, .ref (ad1 (90, 0, 0, 0)))]) dX7_cleaned_127 rfl (by decide) (fun _ => rfl) (fun v127 e127 => ?_)
                  refine G_goto (pc := 130) 42 dX7_cleaned_130 (by decide) ?_
                  refine G_perm (lv' := [(0, .ref (ad1 (40, 0, 0, 0))), (1, .int (zI t)), (2, .int (zI b)), (3, .int (zI k)), (4, .int (zI w)), (5, .int (zI (mEn T w))), (6, .ref (ad1 (90, 0, 0, 0))), (7, .int (zI v127))]) [2, 3, 4, 5, 6, 7, 8, 0] rfl ?_
                  exact ih42 k v127 F T2 ⟨by omega, by rw [← hz2, e127, show (o + 1).toNat = (o + -1 + 1).toNat + 1 by omega]; show _ = mcN Q b w _ (mc1 Q b w ((o + -1 + 1).toNat : Int) (T2, F, k)); rw [show (((o + -1 + 1).toNat : Nat) : Int) = o by omega, hz7], by assumption, by first | exact hF01 | (intro j; rw [hF126]; exact zup01 hF01 j)⟩ (by omega)
        refine G_perm (lv' := [(0, .ref (ad1 (40, 0, 0, 0))), (1, .int (zI t)), (2, .int (zI b)), (3, .int (zI m)), (4, .int (zI w)), (5, .int (zI (mEn T w))), (6, .ref (ad1 (90, 0, 0, 0))), (7, .int (zI v40))]) [3, 4, 5, 6, 7, 2, 1, 0] rfl ?_
        exact L42 _ m v40 ((fun _ => 0)) T ⟨by omega, by rw [e40, show mEn T w - 1 + 1 = mEn T w by omega], hTV, fun j => Or.inl rfl⟩ (Nat.lt_succ_self _)
  refine G_perm (lv' := [(0, .ref (ad (40, 0, 0, 0))), (1, .int (zI t)), (2, .int (zI b)), (3, .int (zI v1)), (4, .int (zI v5))]) [2, 3, 4, 1, 0] rfl ?_
  exact L7 _ v1 v5 0 0 S ⟨⟨by omega, by omega, by omega⟩, by rw [e1, e5]; rfl, hV⟩ (Nat.lt_succ_self _)
set_option maxHeartbeats 4000000 in
set_option maxRecDepth 100000 in
theorem c_X7_shares {l : Launch} {Δ : zDl} {ad : zK → Nat} {P : zP} {S : zS} {X : zMem} {Q : zP} {g : Int} (hV : zWM Q S) (hX0 : X (90, 0, 0, 0) = none) (hg : 0 ≤ g ∧ g < Q 3 0 0) : zMn l Δ yX7_shares cX7_shares 10 (some (.array .int)) 1 1 4 [.ref (ad (40, 0, 0, 0)), .int (zI g)] ad (mm Δ ad P S X) (zPs Δ ad P S X (msh Q S g)) := by
  refine zMn_of (by decide) (Nat.le_of_ble_eq_true rfl) (fun Γ hl hΔ hF => ?_)
  subst hl hΔ
  show G Γ _ _ _ RX7 _ _ _ _ _ [(0, .ref (ad (40, 0, 0, 0))), (1, .int (zI g))] []
  have hq := hV.q
  have hqg := hV.qg hg
  have hqt := hV.qt hqg
  have hgt := hV.gt hg
  have hgn := hV.gn hg
  have hmn := msn_le (S := S) (g := g)
  refine G_iconst (pc := 0) dX7_shares_0 ?_
  refine G_newI (pc := 1) (N := 4) (lvf := fun ad => [(0, .ref (ad (40, 0, 0, 0))), (1, .int (zI g))]) (stf := fun ad => []) hX0 dX7_shares_1 rfl ⟨by omega, by omega⟩ ⟨Nat.le_of_ble_eq_true rfl, Nat.le_of_ble_eq_true rfl⟩ (fun ad' h => ⟨by rw [h (40, 0, 0, 0) (by decide)], rfl⟩) (fun ad1 had1 => ?_)
  show G Γ _ _ _ _ _ _ (1) (4) _ _ _
  refine G_astore_n (pc := 3) 2 [(2, .ref (ad1 (90, 0, 0, 0))), (0, .ref (ad1 (40, 0, 0, 0))), (1, .int (zI g))] dX7_shares_3 rfl (by decide) rfl ?_
  refine G_aload_n (pc := 4) 0 1 dX7_shares_4 rfl rfl ?_
  refine G_getf (pc := 5) fl_X7_16 dX7_shares_5 mg_40 rfl ?_
  refine G_aload_n (pc := 8) 0 1 dX7_shares_8 rfl rfl ?_
  refine G_getf (pc := 9) fl_X7_66 dX7_shares_9 mg_40 rfl ?_
  refine G_iload_n (pc := 12) 1 2 dX7_shares_12 rfl rfl ?_
  refine G_iald (pc := 13) dX7_shares_13 mg_64 ⟨by omega, by omega, by omega, by omega⟩ ?_
  have hb13 := hV.b64 (g)
  refine G_iald (pc := 14) dX7_shares_14 mg_45 ⟨by omega, by omega, by omega, by omega⟩ ?_
  have hb14 := hV.b45 (S (64, 0, 0, 0) g)
  refine G_istore_ne (pc := 15) 3 (fun zw => [(3, .int (zI zw)), (2, .ref (ad1 (90, 0, 0, 0))), (0, .ref (ad1 (40, 0, 0, 0))), (1, .int (zI g))]) dX7_shares_15 rfl (by decide) (fun _ => rfl) (fun v15 e15 => ?_)
  refine G_iconst (pc := 16) dX7_shares_16 ?_
  refine G_istore_e (pc := 17) (fun zw => [(4, .int (zI zw)), (3, .int (zI v15)), (2, .ref (ad1 (90, 0, 0, 0))), (0, .ref (ad1 (40, 0, 0, 0))), (1, .int (zI g))]) dX7_shares_17 (by decide) (fun _ => rfl) (fun v17 e17 => ?_)
  refine G_iconst (pc := 19) dX7_shares_19 ?_
  refine G_istore_e (pc := 20) (fun zw => [(5, .int (zI zw)), (4, .int (zI v17)), (3, .int (zI v15)), (2, .ref (ad1 (90, 0, 0, 0))), (0, .ref (ad1 (40, 0, 0, 0))), (1, .int (zI g))]) dX7_shares_20 (by decide) (fun _ => rfl) (fun v20 e20 => ?_)
  have L22 : ∀ (n : Nat) (m : Int) (r : Int), ((0 ≤ r ∧ r ≤ 6) ∧ m + sm (fun r => if S (68, 0, 0, 0) (g * 6 + r) = 0 then 0 else 1) r 6 = msn S g) → (6 - r).toNat < n → G Γ (zRm 1 1 4) cX7_shares 10 RX7 ad1 (mm (z_d Γ) ad1 P S (zTm X ((z_d Γ).2.1 0) 4 (fun _ => 0))) 1 4 22 [(0, .ref (ad1 (40, 0, 0, 0))), (1, .int (zI g)), (2, .ref (ad1 (90, 0, 0, 0))), (3, .int (zI v15)), (4, .int (zI m)), (5, .int (zI r))] [] := by
    intro n
    induction n with
    | zero => intro m r _ hn; omega
    | succ n ih22 =>
      intro m r hi22 hn22
      refine G_iload (pc := 22) 5 dX7_shares_22 rfl ?_
      refine G_bipush (pc := 24) dX7_shares_24 (by decide) ?_
      refine G_icmp_ge (pc := 26) 60 dX7_shares_26 (by decide) (by first | exact hS _ _ | exact hT _ _ | exact ⟨by omega, by omega⟩ | assumption | exact zWM.r (by assumption) _ _ (by decide)) (by first | exact hS _ _ | exact hT _ _ | exact ⟨by omega, by omega⟩ | assumption | exact zWM.r (by assumption) _ _ (by decide)) (fun c26 => ?_) (fun c26 => ?_)
      · refine G_iconst (pc := 60) dX7_shares_60 ?_
        refine G_istore_e (pc := 61) (fun zw => [(5, .int (zI zw)), (0, .ref (ad1 (40, 0, 0, 0))), (1, .int (zI g)), (2, .ref (ad1 (90, 0, 0, 0))), (3, .int (zI v15)), (4, .int (zI m))]) dX7_shares_61 (by decide) (fun _ => rfl) (fun v61 e61 => ?_)
        have L63 : ∀ (n : Nat) (p : Int) (F1 : Int → Int), ((0 ≤ p ∧ p ≤ 4) ∧ lp (fun p F => zup F p (-1)) p 4 F1 = msF) → (4 - p).toNat < n → G Γ (zRm 1 1 4) cX7_shares 10 RX7 ad1 (mm (z_d Γ) ad1 P S (zTm X ((z_d Γ).2.1 0) 4 F1)) 1 4 63 [(0, .ref (ad1 (40, 0, 0, 0))), (1, .int (zI g)), (2, .ref (ad1 (90, 0, 0, 0))), (3, .int (zI v15)), (4, .int (zI m)), (5, .int (zI p))] [] := by
          intro n
          induction n with
          | zero => intro p F1 _ hn; omega
          | succ n ih63 =>
            intro p F1 hi63 hn63
            refine G_iload (pc := 63) 5 dX7_shares_63 rfl ?_
            refine G_iconst (pc := 65) dX7_shares_65 ?_
            refine G_icmp_ge (pc := 66) 80 dX7_shares_66 (by decide) (by first | exact hS _ _ | exact hT _ _ | exact ⟨by omega, by omega⟩ | assumption | exact zWM.r (by assumption) _ _ (by decide)) (by first | exact hS _ _ | exact hT _ _ | exact ⟨by omega, by omega⟩ | assumption | exact zWM.r (by assumption) _ _ (by decide)) (fun c66 => ?_) (fun c66 => ?_)
            · refine G_iconst (pc := 80) dX7_shares_80 ?_
              refine G_istore_e (pc := 81) (fun zw => [(5, .int (zI zw)), (0, .ref (ad1 (40, 0, 0, 0))), (1, .int (zI g)), (2, .ref (ad1 (90, 0, 0, 0))), (3, .int (zI v15)), (4, .int (zI m))]) dX7_shares_81 (by decide) (fun _ => rfl) (fun v81 e81 => ?_)
              refine G_iconst (pc := 83) dX7_shares_83 ?_
              refine G_istore_e (pc := 84) (fun zw => [(6, .int (zI zw)), (5, .int (zI v81)), (0, .ref (ad1 (40, 0, 0, 0))), (1, .int (zI g)), (2, .ref (ad1 (90, 0, 0, 0))), (3, .int (zI v15)), (4, .int (zI m))]) dX7_shares_84 (by decide) (fun _ => rfl) (fun v84 e84 => ?_)
              refine G_iconst (pc := 86) dX7_shares_86 ?_
              refine G_istore_e (pc := 87) (fun zw => [(7, .int (zI zw)), (6, .int (zI v84)), (5, .int (zI v81)), (0, .ref (ad1 (40, 0, 0, 0))), (1, .int (zI g)), (2, .ref (ad1 (90, 0, 0, 0))), (3, .int (zI v15)), (4, .int (zI m))]) dX7_shares_87 (by decide) (fun _ => rfl) (fun v87 e87 => ?_)
              have h15 : v15 = Q 1 (Q 4 g 0) 0 := by rw [e15, hgn]
              have hM : m = msn S g := by rw [← hi22.2, sm_end (by omega)]; omega
              have hFF : F1 = msF := by rw [← hi63.2, lp_end (by omega)]
              have L89 : ∀ (n : Nat) (p : Int) (k : Int) (r : Int) (F2 : Int → Int), (((0 ≤ r ∧ r ≤ 6) ∧ 0 ≤ k) ∧ k + sm (fun r => if S (68, 0, 0, 0) (g * 6 + r) = 0 then 0 else 1) r 6 = msn S g ∧ p = k * (Q 1 (Q 4 g 0) 0 / msn S g) + min k (Q 1 (Q 4 g 0) 0 % msn S g) ∧ lp (ms1 S g (Q 1 (Q 4 g 0) 0 / msn S g) (Q 1 (Q 4 g 0) 0 % msn S g)) r 6 (F2, p, k) = lp (ms1 S g (Q 1 (Q 4 g 0) 0 / msn S g) (Q 1 (Q 4 g 0) 0 % msn S g)) 0 6 (msF, 0, 0)) → (6 - r).toNat < n → G Γ (zRm 1 1 4) cX7_shares 10 RX7 ad1 (mm (z_d Γ) ad1 P S (zTm X ((z_d Γ).2.1 0) 4 F2)) 1 4 89 [(0, .ref (ad1 (40, 0, 0, 0))), (1, .int (zI g)), (2, .ref (ad1 (90, 0, 0, 0))), (3, .int (zI v15)), (4, .int (zI m)), (5, .int (zI p)), (6, .int (zI k)), (7, .int (zI r))] [] := by
                intro n
                induction n with
                | zero => intro p k r F2 _ hn; omega
                | succ n ih89 =>
                  intro p k r F2 hi89 hn89
                  obtain ⟨hr0, hz1, hz2, hz3⟩ := hi89
                  refine G_iload (pc := 89) 7 dX7_shares_89 rfl ?_
                  refine G_bipush (pc := 91) dX7_shares_91 (by decide) ?_
                  refine G_icmp_ge (pc := 93) 169 dX7_shares_93 (by decide) (by first | exact hS _ _ | exact hT _ _ | exact ⟨by omega, by omega⟩ | assumption | exact zWM.r (by assumption) _ _ (by decide)) (by first | exact hS _ _ | exact hT _ _ | exact ⟨by omega, by omega⟩ | assumption | exact zWM.r (by assumption) _ _ (by decide)) (fun c93 => ?_) (fun c93 => ?_)
                  · refine G_aload_n (pc := 169) 2 2 dX7_shares_169 rfl rfl ?_
                    exact G_aret (pc := 170) hF (Or.inr ⟨_, rfl⟩) dX7_shares_170 ⟨Nat.le_of_ble_eq_true rfl, Nat.le_of_ble_eq_true rfl⟩ ⟨rfl, had1, by unfold msh; rw [← hz3, lp_end (by omega)]⟩
                  · refine G_aload_n (pc := 96) 0 0 dX7_shares_96 rfl rfl ?_
                    refine G_getf (pc := 97) fl_X7_78 dX7_shares_97 mg_40 rfl ?_
                    refine G_iload_n (pc := 100) 1 1 dX7_shares_100 rfl rfl ?_
                    refine G_bipush (pc := 101) dX7_shares_101 (by decide) ?_
                    refine G_imul (pc := 103) dX7_shares_103 ?_
                    refine G_iload (pc := 104) 7 dX7_shares_104 rfl ?_
                    refine G_iadd (pc := 106) dX7_shares_106 ?_
                    refine G_zald (pc := 107) dX7_shares_107 mg_68 ⟨by omega, by omega, by omega, by omega⟩ ?_
                    have hb107 := hV.b68 ((g * 6) + r)
                    refine G_if_ne (pc := 108) 114 dX7_shares_108 (by decide) (by first | exact hS _ _ | exact hT _ _ | exact ⟨by omega, by omega⟩ | assumption | exact zWM.r (by assumption) _ _ (by decide)) (fun c108 => ?_) (fun c108 => ?_)
                    · have hpos := msn_lt ⟨hr0.1.1, by omega⟩ c108 hz1
                      have hmd := msd (N := Q 1 (Q 4 g 0) 0) (m := msn S g) (k := k) hqt ⟨by omega, hmn.2⟩ ⟨hr0.2, hpos.2⟩
                      have hr1 : 0 ≤ v15 % m ∧ v15 % m < m := ⟨Int.emod_nonneg _ (by omega), Int.emod_lt_of_pos _ (by omega)⟩
                      have hr2 : v15 % m = (Q 1 (Q 4 g 0) 0 % msn S g) := by rw [h15, hM]
                      refine G_iload_n (pc := 114) 3 3 dX7_shares_114 rfl rfl ?_
                      refine G_iload (pc := 115) 4 dX7_shares_115 rfl ?_
                      refine G_idiv (pc := 117) dX7_shares_117 ⟨by omega, by omega, by omega⟩ ⟨by omega, by omega, by omega⟩ ?_
                      refine G_iload (pc := 118) 6 dX7_shares_118 rfl ?_
                      refine G_iload_n (pc := 120) 3 3 dX7_shares_120 rfl rfl ?_
                      refine G_iload (pc := 121) 4 dX7_shares_121 rfl ?_
                      refine G_irem (pc := 123) dX7_shares_123 ⟨by omega, by omega, by omega⟩ ⟨by omega, by omega, by omega⟩ ?_
                      refine G_icmp_ge (pc := 124) 131 dX7_shares_124 (by decide) (by first | exact hS _ _ | exact hT _ _ | exact ⟨by omega, by omega⟩ | assumption | exact zWM.r (by assumption) _ _ (by decide)) (by first | exact hS _ _ | exact hT _ _ | exact ⟨by omega, by omega⟩ | assumption | exact zWM.r (by assumption) _ _ (by decide)) (fun c124 => ?_) (fun c124 => ?_)
                      · refine G_iconst (pc := 131) dX7_shares_131 ?_
                        refine G_iadd (pc := 132) dX7_shares_132 ?_
                        refine G_istore_e (pc := 133) (fun zw => [(8, .int (zI zw)), (0, .ref (ad1 (40, 0, 0, 0))), (1, .int (zI g)), (2, .ref (ad1 (90, 0, 0, 0))), (3, .int (zI v15)), (4, .int (zI m)), (5, .int (zI p)), (6, .int (zI k)), (7, .int (zI r))]) dX7_shares_133 (by decide) (fun _ => rfl) (fun v133 e133 => ?_)
                        refine G_iconst (pc := 135) dX7_shares_135 ?_
                        refine G_istore_e (pc := 136) (fun zw => [(9, .int (zI zw)), (8, .int (zI v133)), (0, .ref (ad1 (40, 0, 0, 0))), (1, .int (zI g)), (2, .ref (ad1 (90, 0, 0, 0))), (3, .int (zI v15)), (4, .int (zI m)), (5, .int (zI p)), (6, .int (zI k)), (7, .int (zI r))]) dX7_shares_136 (by decide) (fun _ => rfl) (fun v136 e136 => ?_)
                        have hits : v133 = msi (Q 1 (Q 4 g 0) 0 / msn S g) (Q 1 (Q 4 g 0) 0 % msn S g) k := by rw [e133, h15, hM]; unfold msi; first | rw [if_pos (by omega)] | rw [if_neg (by omega)]
                        have L138 : ∀ (n : Nat) (p2 : Int) (j : Int) (F3 : Int → Int), ((0 ≤ j ∧ j ≤ v133) ∧ p2 = p + j ∧ lp (ms0 r) j v133 (F3, p2) = lp (ms0 r) 0 v133 (F2, p)) → (v133 - j).toNat < n → G Γ (zRm 1 1 4) cX7_shares 10 RX7 ad1 (mm (z_d Γ) ad1 P S (zTm X ((z_d Γ).2.1 0) 4 F3)) 1 4 138 [(0, .ref (ad1 (40, 0, 0, 0))), (1, .int (zI g)), (2, .ref (ad1 (90, 0, 0, 0))), (3, .int (zI v15)), (4, .int (zI m)), (5, .int (zI p2)), (6, .int (zI k)), (7, .int (zI r)), (8, .int (zI v133)), (9, .int (zI j))] [] := by
                          intro n
                          induction n with
                          | zero => intro p2 j F3 _ hn; omega
                          | succ n ih138 =>
                            intro p2 j F3 hi138 hn138
                            obtain ⟨hj0, hzp2, hzl⟩ := hi138
                            refine G_iload (pc := 138) 9 dX7_shares_138 rfl ?_
                            refine G_iload (pc := 140) 8 dX7_shares_140 rfl ?_
                            refine G_icmp_ge (pc := 142) 160 dX7_shares_142 (by decide) (by first | exact hS _ _ | exact hT _ _ | exact ⟨by omega, by omega⟩ | assumption | exact zWM.r (by assumption) _ _ (by decide)) (by first | exact hS _ _ | exact hT _ _ | exact ⟨by omega, by omega⟩ | assumption | exact zWM.r (by assumption) _ _ (by decide)) (fun c142 => ?_) (fun c142 => ?_)
                            · have hj1 : j = v133 := by omega
                              have hzl2 : lp (ms0 r) 0 v133 (F2, p) = (F3, p2) := by rw [← hzl, lp_end (by omega)]
                              have hzp : p2 = (k + 1) * (Q 1 (Q 4 g 0) 0 / msn S g) + min (k + 1) (Q 1 (Q 4 g 0) 0 % msn S g) := by omega
                              refine G_iinc_e (pc := 160) 6 (fun zw => [(6, .int (zI zw)), (0, .ref (ad1 (40, 0, 0, 0))), (1, .int (zI g)), (2, .ref (ad1 (90, 0, 0, 0))), (3, .int (zI v15)), (4, .int (zI m)), (5, .int (zI p2)), (7, .int (zI r)), (8, .int (zI v133)), (9, .int (zI j))]) dX7_shares_160 rfl (by decide) (fun _ => rfl) (fun v160 e160 => ?_)
                              first | (have hz9 : ms1 S g (Q 1 (Q 4 g 0) 0 / msn S g) (Q 1 (Q 4 g 0) 0 % msn S g) r (F2, p, k) = (F2, p, k) := if_pos c108) | (have hz9 : ms1 S g (Q 1 (Q 4 g 0) 0 / msn S g) (Q 1 (Q 4 g 0) 0 % msn S g) r (F2, p, k) = (F3, p2, v160) := by unfold ms1; rw [if_neg c108]; show ((lp (ms0 r) 0 (msi _ _ k) (F2, p)).1, (lp (ms0 r) 0 (msi _ _ k) (F2, p)).2, k + 1) = _; rw [← hits, hzl2, e160])
                              refine G_iinc_e (pc := 163) 7 (fun zw => [(7, .int (zI zw)), (6, .int (zI v160)), (0, .ref (ad1 (40, 0, 0, 0))), (1, .int (zI g)), (2, .ref (ad1 (90, 0, 0, 0))), (3, .int (zI v15)), (4, .int (zI m)), (5, .int (zI p2)), (8, .int (zI v133)), (9, .int (zI j))]) dX7_shares_163 rfl (by decide) (fun _ => rfl) (fun v163 e163 => ?_)
                              refine G_goto (pc := 166) 89 dX7_shares_166 (by decide) ?_
                              refine G_perm (lv' := [(0, .ref (ad1 (40, 0, 0, 0))), (1, .int (zI g)), (2, .ref (ad1 (90, 0, 0, 0))), (3, .int (zI v15)), (4, .int (zI m)), (5, .int (zI p2)), (6, .int (zI v160)), (7, .int (zI v163))]) [2, 3, 4, 5, 6, 7, 1, 0] rfl ?_
                              exact ih89 p2 v160 v163 F3  ⟨⟨by omega, by omega⟩, by rw [e163]; first | exact (by rw [e160]; exact hpos.1) | exact msn_eq ⟨hr0.1.1, by omega⟩ c108 hz1, by first | exact hz2 | (rw [e160, hzp]), by rw [e163, ← hz3, lp_step (a := r) (n := 6) (by omega), hz9]⟩ (by omega)
                            · refine G_aload_n (pc := 145) 2 2 dX7_shares_145 rfl rfl ?_
                              refine G_iload (pc := 146) 5 dX7_shares_146 rfl ?_
                              refine G_iinc_e (pc := 148) 5 (fun zw => [(5, .int (zI zw)), (0, .ref (ad1 (40, 0, 0, 0))), (1, .int (zI g)), (2, .ref (ad1 (90, 0, 0, 0))), (3, .int (zI v15)), (4, .int (zI m)), (6, .int (zI k)), (7, .int (zI r)), (8, .int (zI v133)), (9, .int (zI j))]) dX7_shares_148 rfl (by decide) (fun _ => rfl) (fun v148 e148 => ?_)
                              refine G_iload (pc := 151) 7 dX7_shares_151 rfl ?_
                              refine G_tias (pc := 153) dX7_shares_153 ⟨by omega, by omega, by omega, by omega⟩ (fun F153 hF153 => ?_)
                              refine G_iinc_e (pc := 154) 9 (fun zw => [(9, .int (zI zw)), (5, .int (zI v148)), (0, .ref (ad1 (40, 0, 0, 0))), (1, .int (zI g)), (2, .ref (ad1 (90, 0, 0, 0))), (3, .int (zI v15)), (4, .int (zI m)), (6, .int (zI k)), (7, .int (zI r)), (8, .int (zI v133))]) dX7_shares_154 rfl (by decide) (fun _ => rfl) (fun v154 e154 => ?_)
                              refine G_goto (pc := 157) 138 dX7_shares_157 (by decide) ?_
                              refine G_perm (lv' := [(0, .ref (ad1 (40, 0, 0, 0))), (1, .int (zI g)), (2, .ref (ad1 (90, 0, 0, 0))), (3, .int (zI v15)), (4, .int (zI m)), (5, .int (zI v148)), (6, .int (zI k)), (7, .int (zI r)), (8, .int (zI v133)), (9, .int (zI v154))]) [2, 3, 4, 5, 6, 1, 7, 8, 9, 0] rfl ?_
                              exact ih138 v148 v154 F153  ⟨by omega, by omega, by rw [e154, ← hzl, lp_step (a := j) (n := v133) (by omega), show ms0 r j (F3, p2) = (F153, v148) by rw [hF153, e148]; rfl]⟩ (by omega)
                        refine G_perm (lv' := [(0, .ref (ad1 (40, 0, 0, 0))), (1, .int (zI g)), (2, .ref (ad1 (90, 0, 0, 0))), (3, .int (zI v15)), (4, .int (zI m)), (5, .int (zI p)), (6, .int (zI k)), (7, .int (zI r)), (8, .int (zI v133)), (9, .int (zI v136))]) [2, 3, 4, 5, 6, 7, 8, 9, 1, 0] rfl ?_
                        exact L138 _ p v136 F2  ⟨by omega, by rw [e136]; omega, by rw [e136]⟩ (Nat.lt_succ_self _)
                      · refine G_iconst (pc := 127) dX7_shares_127 ?_
                        refine G_goto (pc := 128) 132 dX7_shares_128 (by decide) ?_
                        refine G_iadd (pc := 132) dX7_shares_132 ?_
                        refine G_istore_e (pc := 133) (fun zw => [(8, .int (zI zw)), (0, .ref (ad1 (40, 0, 0, 0))), (1, .int (zI g)), (2, .ref (ad1 (90, 0, 0, 0))), (3, .int (zI v15)), (4, .int (zI m)), (5, .int (zI p)), (6, .int (zI k)), (7, .int (zI r))]) dX7_shares_133 (by decide) (fun _ => rfl) (fun v133 e133 => ?_)
                        refine G_iconst (pc := 135) dX7_shares_135 ?_
                        refine G_istore_e (pc := 136) (fun zw => [(9, .int (zI zw)), (8, .int (zI v133)), (0, .ref (ad1 (40, 0, 0, 0))), (1, .int (zI g)), (2, .ref (ad1 (90, 0, 0, 0))), (3, .int (zI v15)), (4, .int (zI m)), (5, .int (zI p)), (6, .int (zI k)), (7, .int (zI r))]) dX7_shares_136 (by decide) (fun _ => rfl) (fun v136 e136 => ?_)
                        have hits : v133 = msi (Q 1 (Q 4 g 0) 0 / msn S g) (Q 1 (Q 4 g 0) 0 % msn S g) k := by rw [e133, h15, hM]; unfold msi; first | rw [if_pos (by omega)] | rw [if_neg (by omega)]
                        have L138 : ∀ (n : Nat) (p2 : Int) (j : Int) (F3 : Int → Int), ((0 ≤ j ∧ j ≤ v133) ∧ p2 = p + j ∧ lp (ms0 r) j v133 (F3, p2) = lp (ms0 r) 0 v133 (F2, p)) → (v133 - j).toNat < n → G Γ (zRm 1 1 4) cX7_shares 10 RX7 ad1 (mm (z_d Γ) ad1 P S (zTm X ((z_d Γ).2.1 0) 4 F3)) 1 4 138 [(0, .ref (ad1 (40, 0, 0, 0))), (1, .int (zI g)), (2, .ref (ad1 (90, 0, 0, 0))), (3, .int (zI v15)), (4, .int (zI m)), (5, .int (zI p2)), (6, .int (zI k)), (7, .int (zI r)), (8, .int (zI v133)), (9, .int (zI j))] [] := by
                          intro n
                          induction n with
                          | zero => intro p2 j F3 _ hn; omega
                          | succ n ih138 =>
                            intro p2 j F3 hi138 hn138
                            obtain ⟨hj0, hzp2, hzl⟩ := hi138
                            refine G_iload (pc := 138) 9 dX7_shares_138 rfl ?_
                            refine G_iload (pc := 140) 8 dX7_shares_140 rfl ?_
                            refine G_icmp_ge (pc := 142) 160 dX7_shares_142 (by decide) (by first | exact hS _ _ | exact hT _ _ | exact ⟨by omega, by omega⟩ | assumption | exact zWM.r (by assumption) _ _ (by decide)) (by first | exact hS _ _ | exact hT _ _ | exact ⟨by omega, by omega⟩ | assumption | exact zWM.r (by assumption) _ _ (by decide)) (fun c142 => ?_) (fun c142 => ?_)
                            · have hj1 : j = v133 := by omega
                              have hzl2 : lp (ms0 r) 0 v133 (F2, p) = (F3, p2) := by rw [← hzl, lp_end (by omega)]
                              have hzp : p2 = (k + 1) * (Q 1 (Q 4 g 0) 0 / msn S g) + min (k + 1) (Q 1 (Q 4 g 0) 0 % msn S g) := by omega
                              refine G_iinc_e (pc := 160) 6 (fun zw => [(6, .int (zI zw)), (0, .ref (ad1 (40, 0, 0, 0))), (1, .int (zI g)), (2, .ref (ad1 (90, 0, 0, 0))), (3, .int (zI v15)), (4, .int (zI m)), (5, .int (zI p2)), (7, .int (zI r)), (8, .int (zI v133)), (9, .int (zI j))]) dX7_shares_160 rfl (by decide) (fun _ => rfl) (fun v160 e160 => ?_)
                              first | (have hz9 : ms1 S g (Q 1 (Q 4 g 0) 0 / msn S g) (Q 1 (Q 4 g 0) 0 % msn S g) r (F2, p, k) = (F2, p, k) := if_pos c108) | (have hz9 : ms1 S g (Q 1 (Q 4 g 0) 0 / msn S g) (Q 1 (Q 4 g 0) 0 % msn S g) r (F2, p, k) = (F3, p2, v160) := by unfold ms1; rw [if_neg c108]; show ((lp (ms0 r) 0 (msi _ _ k) (F2, p)).1, (lp (ms0 r) 0 (msi _ _ k) (F2, p)).2, k + 1) = _; rw [← hits, hzl2, e160])
                              refine G_iinc_e (pc := 163) 7 (fun zw => [(7, .int (zI zw)), (6, .int (zI v160)), (0, .ref (ad1 (40, 0, 0, 0))), (1, .int (zI g)), (2, .ref (ad1 (90, 0, 0, 0))), (3, .int (zI v15)), (4, .int (zI m)), (5, .int (zI p2)), (8, .int (zI v133)), (9, .int (zI j))]) dX7_shares_163 rfl (by decide) (fun _ => rfl) (fun v163 e163 => ?_)
                              refine G_goto (pc := 166) 89 dX7_shares_166 (by decide) ?_
                              refine G_perm (lv' := [(0, .ref (ad1 (40, 0, 0, 0))), (1, .int (zI g)), (2, .ref (ad1 (90, 0, 0, 0))), (3, .int (zI v15)), (4, .int (zI m)), (5, .int (zI p2)), (6, .int (zI v160)), (7, .int (zI v163))]) [2, 3, 4, 5, 6, 7, 1, 0] rfl ?_
                              exact ih89 p2 v160 v163 F3  ⟨⟨by omega, by omega⟩, by rw [e163]; first | exact (by rw [e160]; exact hpos.1) | exact msn_eq ⟨hr0.1.1, by omega⟩ c108 hz1, by first | exact hz2 | (rw [e160, hzp]), by rw [e163, ← hz3, lp_step (a := r) (n := 6) (by omega), hz9]⟩ (by omega)
                            · refine G_aload_n (pc := 145) 2 2 dX7_shares_145 rfl rfl ?_
                              refine G_iload (pc := 146) 5 dX7_shares_146 rfl ?_
                              refine G_iinc_e (pc := 148) 5 (fun zw => [(5, .int (zI zw)), (0, .ref (ad1 (40, 0, 0, 0))), (1, .int (zI g)), (2, .ref (ad1 (90, 0, 0, 0))), (3, .int (zI v15)), (4, .int (zI m)), (6, .int (zI k)), (7, .int (zI r)), (8, .int (zI v133)), (9, .int (zI j))]) dX7_shares_148 rfl (by decide) (fun _ => rfl) (fun v148 e148 => ?_)
                              refine G_iload (pc := 151) 7 dX7_shares_151 rfl ?_
                              refine G_tias (pc := 153) dX7_shares_153 ⟨by omega, by omega, by omega, by omega⟩ (fun F153 hF153 => ?_)
                              refine G_iinc_e (pc := 154) 9 (fun zw => [(9, .int (zI zw)), (5, .int (zI v148)), (0, .ref (ad1 (40, 0, 0, 0))), (1, .int (zI g)), (2, .ref (ad1 (90, 0, 0, 0))), (3, .int (zI v15)), (4, .int (zI m)), (6, .int (zI k)), (7, .int (zI r)), (8, .int (zI v133))]) dX7_shares_154 rfl (by decide) (fun _ => rfl) (fun v154 e154 => ?_)
                              refine G_goto (pc := 157) 138 dX7_shares_157 (by decide) ?_
                              refine G_perm (lv' := [(0, .ref (ad1 (40, 0, 0, 0))), (1, .int (zI g)), (2, .ref (ad1 (90, 0, 0, 0))), (3, .int (zI v15)), (4, .int (zI m)), (5, .int (zI v148)), (6, .int (zI k)), (7, .int (zI r)), (8, .int (zI v133)), (9, .int (zI v154))]) [2, 3, 4, 5, 6, 1, 7, 8, 9, 0] rfl ?_
                              exact ih138 v148 v154 F153  ⟨by omega, by omega, by rw [e154, ← hzl, lp_step (a := j) (n := v133) (by omega), show ms0 r j (F3, p2) = (F153, v148) by rw [hF153, e148]; rfl]⟩ (by omega)
                        refine G_perm (lv' := [(0, .ref (ad1 (40, 0, 0, 0))), (1, .int (zI g)), (2, .ref (ad1 (90, 0, 0, 0))), (3, .int (zI v15)), (4, .int (zI m)), (5, .int (zI p)), (6, .int (zI k)), (7, .int (zI r)), (8, .int (zI v133)), (9, .int (zI v136))]) [2, 3, 4, 5, 6, 7, 8, 9, 1, 0] rfl ?_
                        exact L138 _ p v136 F2  ⟨by omega, by rw [e136]; omega, by rw [e136]⟩ (Nat.lt_succ_self _)
                    · refine G_goto (pc := 111) 163 dX7_shares_111 (by decide) ?_
                      first | (have hz9 : ms1 S g (Q 1 (Q 4 g 0) 0 / msn S g) (Q 1 (Q 4 g 0) 0 % msn S g) r (F2, p, k) = (F2, p, k) := if_pos c108) | (have hz9 : ms1 S g (Q 1 (Q 4 g 0) 0 / msn S g) (Q 1 (Q 4 g 0) 0 % msn S g) r (F2, p, k) = (F3, p2, v160) := by unfold ms1; rw [if_neg c108]; show ((lp (ms0 r) 0 (msi _ _ k) (F2, p)).1, (lp (ms0 r) 0 (msi _ _ k) (F2, p)).2, k + 1) = _; rw [← hits, hzl2, e160])
                      refine G_iinc_e (pc := 163) 7 (fun zw => [(7, .int (zI zw)), (0, .ref (ad1 (40, 0, 0, 0))), (1, .int (zI g)), (2, .ref (ad1 (90, 0, 0, 0))), (3, .int (zI v15)), (4, .int (zI m)), (5, .int (zI p)), (6, .int (zI k))]) dX7_shares_163 rfl (by decide) (fun _ => rfl) (fun v163 e163 => ?_)
                      refine G_goto (pc := 166) 89 dX7_shares_166 (by decide) ?_
                      refine G_perm (lv' := [(0, .ref (ad1 (40, 0, 0, 0))), (1, .int (zI g)), (2, .ref (ad1 (90, 0, 0, 0))), (3, .int (zI v15)), (4, .int (zI m)), (5, .int (zI p)), (6, .int (zI k)), (7, .int (zI v163))]) [1, 2, 3, 4, 5, 6, 7, 0] rfl ?_
                      exact ih89 p k v163 F2  ⟨⟨by omega, by omega⟩, by rw [e163]; first | exact (by rw [e160]; exact hpos.1) | exact msn_eq ⟨hr0.1.1, by omega⟩ c108 hz1, by first | exact hz2 | (rw [e160, hzp]), by rw [e163, ← hz3, lp_step (a := r) (n := 6) (by omega), hz9]⟩ (by omega)
              refine G_perm (lv' := [(0, .ref (ad1 (40, 0, 0, 0))), (1, .int (zI g)), (2, .ref (ad1 (90, 0, 0, 0))), (3, .int (zI v15)), (4, .int (zI m)), (5, .int (zI v81)), (6, .int (zI v84)), (7, .int (zI v87))]) [3, 4, 5, 6, 7, 2, 1, 0] rfl ?_
              exact L89 _ v81 v84 v87 F1  ⟨⟨by omega, by omega⟩, by rw [e84, e87]; exact Int.zero_add _, by rw [e81, e84]; have h7 := mod0 (N := Q 1 (Q 4 g 0) 0) (m := msn S g) (by omega); rw [Int.zero_mul]; omega, by rw [e81, e84, e87, hFF]⟩ (Nat.lt_succ_self _)
            · refine G_aload_n (pc := 69) 2 2 dX7_shares_69 rfl rfl ?_
              refine G_iload (pc := 70) 5 dX7_shares_70 rfl ?_
              refine G_iconst (pc := 72) dX7_shares_72 ?_
              refine G_tias (pc := 73) dX7_shares_73 ⟨by omega, by omega, by omega, by omega⟩ (fun F73 hF73 => ?_)
              refine G_iinc_e (pc := 74) 5 (fun zw => [(5, .int (zI zw)), (0, .ref (ad1 (40, 0, 0, 0))), (1, .int (zI g)), (2, .ref (ad1 (90, 0, 0, 0))), (3, .int (zI v15)), (4, .int (zI m))]) dX7_shares_74 rfl (by decide) (fun _ => rfl) (fun v74 e74 => ?_)
              refine G_goto (pc := 77) 63 dX7_shares_77 (by decide) ?_
              refine G_perm (lv' := [(0, .ref (ad1 (40, 0, 0, 0))), (1, .int (zI g)), (2, .ref (ad1 (90, 0, 0, 0))), (3, .int (zI v15)), (4, .int (zI m)), (5, .int (zI v74))]) [1, 2, 3, 4, 5, 0] rfl ?_
              exact ih63 v74 F73  ⟨by omega, by rw [e74, ← hi63.2, lp_step (a := p) (n := 4) (by omega), hF73]⟩ (by omega)
        refine G_perm (lv' := [(0, .ref (ad1 (40, 0, 0, 0))), (1, .int (zI g)), (2, .ref (ad1 (90, 0, 0, 0))), (3, .int (zI v15)), (4, .int (zI m)), (5, .int (zI v61))]) [1, 2, 3, 4, 5, 0] rfl ?_
        exact L63 _ v61 ((fun _ => 0))  ⟨by omega, by rw [e61]; rfl⟩ (Nat.lt_succ_self _)
      · refine G_iload (pc := 29) 4 dX7_shares_29 rfl ?_
        refine G_aload_n (pc := 31) 0 0 dX7_shares_31 rfl rfl ?_
        refine G_getf (pc := 32) fl_X7_78 dX7_shares_32 mg_40 rfl ?_
        refine G_iload_n (pc := 35) 1 1 dX7_shares_35 rfl rfl ?_
        refine G_bipush (pc := 36) dX7_shares_36 (by decide) ?_
        refine G_imul (pc := 38) dX7_shares_38 ?_
        refine G_iload (pc := 39) 5 dX7_shares_39 rfl ?_
        refine G_iadd (pc := 41) dX7_shares_41 ?_
        refine G_zald (pc := 42) dX7_shares_42 mg_68 ⟨by omega, by omega, by omega, by omega⟩ ?_
        have hb42 := hV.b68 ((g * 6) + r)
        refine G_if_eq (pc := 43) 50 dX7_shares_43 (by decide) (by first | exact hS _ _ | exact hT _ _ | exact ⟨by omega, by omega⟩ | assumption | exact zWM.r (by assumption) _ _ (by decide)) (fun c43 => ?_) (fun c43 => ?_)
        · refine G_iconst (pc := 50) dX7_shares_50 ?_
          refine G_iadd (pc := 51) dX7_shares_51 ?_
          refine G_istore_e (pc := 52) (fun zw => [(4, .int (zI zw)), (0, .ref (ad1 (40, 0, 0, 0))), (1, .int (zI g)), (2, .ref (ad1 (90, 0, 0, 0))), (3, .int (zI v15)), (5, .int (zI r))]) dX7_shares_52 (by decide) (fun _ => rfl) (fun v52 e52 => ?_)
          refine G_iinc_e (pc := 54) 5 (fun zw => [(5, .int (zI zw)), (4, .int (zI v52)), (0, .ref (ad1 (40, 0, 0, 0))), (1, .int (zI g)), (2, .ref (ad1 (90, 0, 0, 0))), (3, .int (zI v15))]) dX7_shares_54 rfl (by decide) (fun _ => rfl) (fun v54 e54 => ?_)
          refine G_goto (pc := 57) 22 dX7_shares_57 (by decide) ?_
          refine G_perm (lv' := [(0, .ref (ad1 (40, 0, 0, 0))), (1, .int (zI g)), (2, .ref (ad1 (90, 0, 0, 0))), (3, .int (zI v15)), (4, .int (zI v52)), (5, .int (zI v54))]) [2, 3, 4, 5, 1, 0] rfl ?_
          exact ih22 v52 v54  ⟨by omega, by rw [e54]; first | (have h7 := (msn_lt ⟨by omega, by omega⟩ c43 hi22.2).1; rw [← h7]; omega) | (have h7 := msn_eq ⟨by omega, by omega⟩ c43 hi22.2; rw [← h7]; omega)⟩ (by omega)
        · refine G_iconst (pc := 46) dX7_shares_46 ?_
          refine G_goto (pc := 47) 51 dX7_shares_47 (by decide) ?_
          refine G_iadd (pc := 51) dX7_shares_51 ?_
          refine G_istore_e (pc := 52) (fun zw => [(4, .int (zI zw)), (0, .ref (ad1 (40, 0, 0, 0))), (1, .int (zI g)), (2, .ref (ad1 (90, 0, 0, 0))), (3, .int (zI v15)), (5, .int (zI r))]) dX7_shares_52 (by decide) (fun _ => rfl) (fun v52 e52 => ?_)
          refine G_iinc_e (pc := 54) 5 (fun zw => [(5, .int (zI zw)), (4, .int (zI v52)), (0, .ref (ad1 (40, 0, 0, 0))), (1, .int (zI g)), (2, .ref (ad1 (90, 0, 0, 0))), (3, .int (zI v15))]) dX7_shares_54 rfl (by decide) (fun _ => rfl) (fun v54 e54 => ?_)
          refine G_goto (pc := 57) 22 dX7_shares_57 (by decide) ?_
          refine G_perm (lv' := [(0, .ref (ad1 (40, 0, 0, 0))), (1, .int (zI g)), (2, .ref (ad1 (90, 0, 0, 0))), (3, .int (zI v15)), (4, .int (zI v52)), (5, .int (zI v54))]) [2, 3, 4, 5, 1, 0] rfl ?_
          exact ih22 v52 v54  ⟨by omega, by rw [e54]; first | (have h7 := (msn_lt ⟨by omega, by omega⟩ c43 hi22.2).1; rw [← h7]; omega) | (have h7 := msn_eq ⟨by omega, by omega⟩ c43 hi22.2; rw [← h7]; omega)⟩ (by omega)
  refine G_perm (lv' := [(0, .ref (ad1 (40, 0, 0, 0))), (1, .int (zI g)), (2, .ref (ad1 (90, 0, 0, 0))), (3, .int (zI v15)), (4, .int (zI v17)), (5, .int (zI v20))]) [4, 5, 3, 2, 1, 0] rfl ?_
  exact L22 _ v17 v20  ⟨by omega, by rw [e17, e20]; exact Int.zero_add _⟩ (Nat.lt_succ_self _)
