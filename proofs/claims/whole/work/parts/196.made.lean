set_option maxHeartbeats 4000000 in
set_option maxRecDepth 100000 in
theorem c_X7_write {l : Launch} {Δ : zDl} {ad : zK → Nat} {P : zP} {S : zS} {X : zMem} {Q : zP} {a g m : Int} (hV : zWM Q S) (hX0 : X (90, 0, 0, 0) = none) (hm : 0 ≤ m ∧ m < 80) (ha : zR a) (hg : zR g) : zMn l Δ yX7_write cX7_write 5 none 3 1 5 [.ref (ad (40, 0, 0, 0)), .int (zI a), .int (zI g), .int (zI m)] ad (mm Δ ad P S X) (zD none ad (mm Δ ad P (mwr S a g m) X)) := by
  refine zMn_of (by decide) (Nat.le_of_ble_eq_true rfl) (fun Γ hl hΔ hF => ?_)
  subst hl hΔ
  show G Γ _ _ _ RX7 _ _ _ _ _ [(0, .ref (ad (40, 0, 0, 0))), (1, .int (zI a)), (2, .int (zI g)), (3, .int (zI m))] []
  have hq := hV.q
  have h32 := hV.f32
  refine G_aload_n (pc := 0) 0 0 dX7_write_0 rfl rfl ?_
  refine G_getf (pc := 1) fl_X7_207 dX7_write_1 mg_40 rfl ?_
  refine G_sipush (pc := 4) dX7_write_4 (by decide) ?_
  refine G_icmp_ne (pc := 7) 11 dX7_write_7 (by decide) (by first | exact hS _ _ | exact hT _ _ | exact ⟨by omega, by omega⟩ | assumption | exact zWM.r (by assumption) _ _ (by decide)) (by first | exact hS _ _ | exact hT _ _ | exact ⟨by omega, by omega⟩ | assumption | exact zWM.r (by assumption) _ _ (by decide)) (fun c7 => ?_) (fun c7 => ?_)
  · refine G_iconst (pc := 11) dX7_write_11 ?_
    refine G_newI (pc := 12) (N := 5) (lvf := fun ad => [(0, .ref (ad (40, 0, 0, 0))), (1, .int (zI a)), (2, .int (zI g)), (3, .int (zI m))]) (stf := fun ad => []) hX0 dX7_write_12 rfl ⟨by omega, by omega⟩ ⟨Nat.le_of_ble_eq_true rfl, Nat.le_of_ble_eq_true rfl⟩ (fun ad' h => ⟨by rw [h (40, 0, 0, 0) (by decide)], rfl⟩) (fun ad1 had1 => ?_)
    show G Γ _ _ _ _ _ _ (1) (5) _ _ _
    refine G_dup (pc := 14) dX7_write_14 rfl ?_
    refine G_iconst (pc := 15) dX7_write_15 ?_
    refine G_iload_n (pc := 16) 1 1 dX7_write_16 rfl rfl ?_
    refine G_tias (pc := 17) dX7_write_17 ⟨by omega, by omega, by omega, by omega⟩ (fun F17 hF17 => ?_)
    refine G_dup (pc := 18) dX7_write_18 rfl ?_
    refine G_iconst (pc := 19) dX7_write_19 ?_
    refine G_iload_n (pc := 20) 2 2 dX7_write_20 rfl rfl ?_
    refine G_tias (pc := 21) dX7_write_21 ⟨by omega, by omega, by omega, by omega⟩ (fun F21 hF21 => ?_)
    refine G_dup (pc := 22) dX7_write_22 rfl ?_
    refine G_iconst (pc := 23) dX7_write_23 ?_
    refine G_aload_n (pc := 24) 0 0 dX7_write_24 rfl rfl ?_
    refine G_getf (pc := 25) fl_X7_36 dX7_write_25 mg_40 rfl ?_
    refine G_iload_n (pc := 28) 3 3 dX7_write_28 rfl rfl ?_
    refine G_iald (pc := 29) dX7_write_29 mg_52 ⟨by omega, by omega, by omega, by omega⟩ ?_
    have hb29 := hV.b52 (m)
    refine G_iconst (pc := 30) dX7_write_30 ?_
    refine G_irem (pc := 31) dX7_write_31 ⟨by omega, by omega, by omega⟩ ⟨by omega, by omega, by omega⟩ ?_
    refine G_tias (pc := 32) dX7_write_32 ⟨by omega, by omega, by omega, by omega⟩ (fun F32 hF32 => ?_)
    refine G_dup (pc := 33) dX7_write_33 rfl ?_
    refine G_iconst (pc := 34) dX7_write_34 ?_
    refine G_aload_n (pc := 35) 0 0 dX7_write_35 rfl rfl ?_
    refine G_getf (pc := 36) fl_X7_39 dX7_write_36 mg_40 rfl ?_
    refine G_iload_n (pc := 39) 3 3 dX7_write_39 rfl rfl ?_
    refine G_iald (pc := 40) dX7_write_40 mg_53 ⟨by omega, by omega, by omega, by omega⟩ ?_
    have hb40 := hV.b53 (m)
    refine G_tias (pc := 41) dX7_write_41 ⟨by omega, by omega, by omega, by omega⟩ (fun F41 hF41 => ?_)
    refine G_dup (pc := 42) dX7_write_42 rfl ?_
    refine G_iconst (pc := 43) dX7_write_43 ?_
    refine G_aload_n (pc := 44) 0 0 dX7_write_44 rfl rfl ?_
    refine G_getf (pc := 45) fl_X7_143 dX7_write_45 mg_40 rfl ?_
    refine G_tias (pc := 48) dX7_write_48 ⟨by omega, by omega, by omega, by omega⟩ (fun F48 hF48 => ?_)
    refine G_astore (pc := 49) [(4, .ref (ad1 (90, 0, 0, 0))), (0, .ref (ad1 (40, 0, 0, 0))), (1, .int (zI a)), (2, .int (zI g)), (3, .int (zI m))] dX7_write_49 (by decide) rfl ?_
    refine G_aload (pc := 51) 0 dX7_write_51 rfl ?_
    refine G_iconst (pc := 53) dX7_write_53 ?_
    refine G_aload_n (pc := 54) 0 1 dX7_write_54 rfl rfl ?_
    refine G_getf (pc := 55) fl_X7_90 dX7_write_55 mg_40 rfl ?_
    refine G_aload_n (pc := 58) 0 1 dX7_write_58 rfl rfl ?_
    refine G_getf (pc := 59) fl_X7_207 dX7_write_59 mg_40 rfl ?_
    refine G_iconst (pc := 62) dX7_write_62 ?_
    refine G_imul (pc := 63) dX7_write_63 ?_
    refine G_iconst (pc := 64) dX7_write_64 ?_
    refine G_copy (pc := 65) (k0 := (90, 0, 0, 0)) (k1 := (73, 0, 0, 0)) dX7_write_65 zTm_g mg_73 ⟨by omega, by omega⟩ ⟨by omega, by omega⟩ (by omega) ⟨by omega, by omega⟩ ⟨Nat.le_of_ble_eq_true rfl, Nat.le_of_ble_eq_true rfl⟩ (mm_row (73, 0, 0, 0) (by decide) _ _ rfl) ?_
    refine G_name (fun S1_65 hS1_65 => ?_)
    have hzc : S1_65 = zst (zst (zst (zst (zst S (73, 0, 0, 0) (S (40, 0, 0, 0) 32 * 5) a) (73, 0, 0, 0) (S (40, 0, 0, 0) 32 * 5 + 1) g) (73, 0, 0, 0) (S (40, 0, 0, 0) 32 * 5 + 2) (S (52, 0, 0, 0) m % 4)) (73, 0, 0, 0) (S (40, 0, 0, 0) 32 * 5 + 3) (S (53, 0, 0, 0) m)) (73, 0, 0, 0) (S (40, 0, 0, 0) 32 * 5 + 4) (S (40, 0, 0, 0) 1) := by rw [hS1_65, hF48, hF41, hF32, hF21, hF17]; exact zcp5 _ _ _ _ _ _ _ _
    refine G_aload_n (pc := 68) 0 1 dX7_write_68 rfl rfl ?_
    refine G_dup (pc := 69) dX7_write_69 rfl ?_
    refine G_getf (pc := 70) fl_X7_207 dX7_write_70 mg_40 rfl ?_
    refine G_iconst (pc := 73) dX7_write_73 ?_
    refine G_iadd (pc := 74) dX7_write_74 ?_
    refine G_putf (pc := 75) fl_X7_207 fp_X7_32 dX7_write_75 mg_40 (Nat.le_of_ble_eq_true rfl) rfl rfl (mp_40_32 _) ?_
    refine G_name (fun S2_75 hS2_75 => ?_)
    have hz9 : S2_75 = mwr S a g m := by unfold mwr; rw [if_neg c7, hS2_75, hzc, zst_k _ _ _ _ (by simp), zst_k _ _ _ _ (by simp), zst_k _ _ _ _ (by simp), zst_k _ _ _ _ (by simp), zst_k _ _ _ _ (by simp)]
    refine G_drop hX0 (by decide) had1 ?_
    have hz9 : S2_75 = mwr S a g m := by unfold mwr; rw [if_neg c7, hS2_75, hzc, zst_k _ _ _ _ (by simp), zst_k _ _ _ _ (by simp), zst_k _ _ _ _ (by simp), zst_k _ _ _ _ (by simp), zst_k _ _ _ _ (by simp)]
    exact G_vret_d (pc := 78) hF dX7_write_78 ⟨Nat.le_of_ble_eq_true rfl, Nat.le_of_ble_eq_true rfl⟩ (by rw [hz9])
  · exact G_vret_d (pc := 10) hF dX7_write_10 ⟨Nat.le_of_ble_eq_true rfl, Nat.le_of_ble_eq_true rfl⟩ (by unfold mwr; rw [if_pos c7])
