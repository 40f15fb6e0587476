set_option maxHeartbeats 4000000 in
set_option maxRecDepth 100000 in
theorem c_X7_group_x {l : Launch} {Δ : zDl} {ad : zK → Nat} {P : zP} {S : zS} {X : zMem} {Q : zP} {t : Int} (hV : zWM Q S) (h61 : Q 61 0 0 = P 61 0 0) (hrt : zR t) (hn : ¬ (0 ≤ t ∧ t < Q 0 0 0)) : zMn l Δ yX7_group cX7_group 3 (some .int) 9 0 0 [.ref (ad (40, 0, 0, 0)), .int (zI t)] ad (mm Δ ad P S X) (zD (some (.int (zI 0))) ad (mm Δ ad P (zst S (40, 0, 0, 0) 0 1) X)) := by
  refine zMn_of (by decide) (Nat.le_of_ble_eq_true rfl) (fun Γ hl hΔ hF => ?_)
  subst hl hΔ
  show G Γ _ _ _ RX7 _ _ _ _ _ [(0, .ref (ad (40, 0, 0, 0))), (1, .int (zI t))] []
  have hq := hV.q
  refine G_aload_n (pc := 0) 0 0 dX7_group_0 rfl rfl ?_
  refine G_iconst (pc := 1) dX7_group_1 ?_
  refine G_putf (pc := 2) fl_X7_93 fp_X7_0 dX7_group_2 mg_40 (Nat.le_of_ble_eq_true rfl) rfl rfl (mp_40_0 _) ?_
  refine G_name (fun S1_2 hS1_2 => ?_)
  have hVS1_2 : zWM Q S1_2 := by rw [hS1_2]; exact hV.s40_0 (by first | assumption | exact ⟨by omega, by omega⟩)
  have h44 := hVS1_2.t4
  have h23 := hVS1_2.g23
  refine G_aload_n (pc := 5) 0 0 dX7_group_5 rfl rfl ?_
  refine G_iload_n (pc := 6) 1 1 dX7_group_6 rfl rfl ?_
  refine G_callVd (pc := 7) gk_X7_103 dX7_group_7 mg_40 rfl (c_X7_isTopic (Q := Q) (by first | assumption | omega | exact ⟨by omega, by omega⟩ | exact hS _ _ | exact hT _ _) (by first | assumption | omega | exact ⟨by omega, by omega⟩ | exact hS _ _ | exact hT _ _)) rfl rfl (Nat.le_of_ble_eq_true rfl) ⟨⟨Nat.le_of_ble_eq_true rfl, Nat.le_of_ble_eq_true rfl⟩, Nat.le_of_ble_eq_true rfl, Nat.le_of_ble_eq_true rfl⟩ ?_
  refine G_if_ne_b (pc := 10) 19 dX7_group_10 (by decide) (fun c10 => ?_) (fun c10 => ?_)
  · exfalso
    omega
  · refine G_aload_n (pc := 13) 0 0 dX7_group_13 rfl rfl ?_
    refine G_iconst (pc := 14) dX7_group_14 ?_
    refine G_callVd (pc := 15) gk_X7_134 dX7_group_15 mg_40 rfl (c_X7_no (Q := Q) (by first | assumption | omega | exact ⟨by omega, by omega⟩ | exact hS _ _ | exact hT _ _) (by first | assumption | omega | exact ⟨by omega, by omega⟩ | exact hS _ _ | exact hT _ _)) rfl rfl (Nat.le_of_ble_eq_true rfl) ⟨⟨Nat.le_of_ble_eq_true rfl, Nat.le_of_ble_eq_true rfl⟩, Nat.le_of_ble_eq_true rfl, Nat.le_of_ble_eq_true rfl⟩ ?_
    refine G_name (fun S2_15 hS2_15 => ?_)
    have hVS2_15 : zWM Q S2_15 := by rw [hS2_15]; exact hVS1_2.s40_0 (by first | assumption | exact ⟨by omega, by omega⟩)
    exact G_iret_m (pc := 18) hF dX7_group_18 ⟨Nat.le_of_ble_eq_true rfl, Nat.le_of_ble_eq_true rfl⟩ (by first | rfl | omega | simp_all) (by rw [hS2_15, hS1_2, zst_zst])
set_option maxHeartbeats 4000000 in
set_option maxRecDepth 100000 in
theorem c_X7_group_z {l : Launch} {Δ : zDl} {ad : zK → Nat} {P : zP} {S : zS} {X : zMem} {Q : zP} {t : Int} (hV : zWM Q S) (h61 : Q 61 0 0 = P 61 0 0) (ht : 0 ≤ t ∧ t < Q 0 0 0) (h3 : Q 3 0 0 = 4) : zMn l Δ yX7_group cX7_group 3 (some .int) 9 0 0 [.ref (ad (40, 0, 0, 0)), .int (zI t)] ad (mm Δ ad P S X) (zD (some (.int (zI 0))) ad (mm Δ ad P (zst S (40, 0, 0, 0) 0 2) X)) := by
  refine zMn_of (by decide) (Nat.le_of_ble_eq_true rfl) (fun Γ hl hΔ hF => ?_)
  subst hl hΔ
  show G Γ _ _ _ RX7 _ _ _ _ _ [(0, .ref (ad (40, 0, 0, 0))), (1, .int (zI t))] []
  have hq := hV.q
  refine G_aload_n (pc := 0) 0 0 dX7_group_0 rfl rfl ?_
  refine G_iconst (pc := 1) dX7_group_1 ?_
  refine G_putf (pc := 2) fl_X7_93 fp_X7_0 dX7_group_2 mg_40 (Nat.le_of_ble_eq_true rfl) rfl rfl (mp_40_0 _) ?_
  refine G_name (fun S1_2 hS1_2 => ?_)
  have hVS1_2 : zWM Q S1_2 := by rw [hS1_2]; exact hV.s40_0 (by first | assumption | exact ⟨by omega, by omega⟩)
  have h44 := hVS1_2.t4
  have h23 := hVS1_2.g23
  refine G_aload_n (pc := 5) 0 0 dX7_group_5 rfl rfl ?_
  refine G_iload_n (pc := 6) 1 1 dX7_group_6 rfl rfl ?_
  refine G_callVd (pc := 7) gk_X7_103 dX7_group_7 mg_40 rfl (c_X7_isTopic (Q := Q) (by first | assumption | omega | exact ⟨by omega, by omega⟩ | exact hS _ _ | exact hT _ _) (by first | assumption | omega | exact ⟨by omega, by omega⟩ | exact hS _ _ | exact hT _ _)) rfl rfl (Nat.le_of_ble_eq_true rfl) ⟨⟨Nat.le_of_ble_eq_true rfl, Nat.le_of_ble_eq_true rfl⟩, Nat.le_of_ble_eq_true rfl, Nat.le_of_ble_eq_true rfl⟩ ?_
  refine G_if_ne_b (pc := 10) 19 dX7_group_10 (by decide) (fun c10 => ?_) (fun c10 => ?_)
  · refine G_aload_n (pc := 19) 0 0 dX7_group_19 rfl rfl ?_
    refine G_getf (pc := 20) fl_X7_107 dX7_group_20 mg_40 rfl ?_
    refine G_iconst (pc := 23) dX7_group_23 ?_
    refine G_icmp_ne (pc := 24) 33 dX7_group_24 (by decide) (by first | exact hS _ _ | exact hT _ _ | exact ⟨by omega, by omega⟩ | assumption | exact zWM.r (by assumption) _ _ (by decide)) (by first | exact hS _ _ | exact hT _ _ | exact ⟨by omega, by omega⟩ | assumption | exact zWM.r (by assumption) _ _ (by decide)) (fun c24 => ?_) (fun c24 => ?_)
    · exfalso
      omega
    · refine G_aload_n (pc := 27) 0 0 dX7_group_27 rfl rfl ?_
      refine G_iconst (pc := 28) dX7_group_28 ?_
      refine G_callVd (pc := 29) gk_X7_134 dX7_group_29 mg_40 rfl (c_X7_no (Q := Q) (by first | assumption | omega | exact ⟨by omega, by omega⟩ | exact hS _ _ | exact hT _ _) (by first | assumption | omega | exact ⟨by omega, by omega⟩ | exact hS _ _ | exact hT _ _)) rfl rfl (Nat.le_of_ble_eq_true rfl) ⟨⟨Nat.le_of_ble_eq_true rfl, Nat.le_of_ble_eq_true rfl⟩, Nat.le_of_ble_eq_true rfl, Nat.le_of_ble_eq_true rfl⟩ ?_
      refine G_name (fun S2_29 hS2_29 => ?_)
      have hVS2_29 : zWM Q S2_29 := by rw [hS2_29]; exact hVS1_2.s40_0 (by first | assumption | exact ⟨by omega, by omega⟩)
      exact G_iret_m (pc := 32) hF dX7_group_32 ⟨Nat.le_of_ble_eq_true rfl, Nat.le_of_ble_eq_true rfl⟩ (by first | rfl | omega | simp_all) (by rw [hS2_29, hS1_2, zst_zst])
  · exfalso
    omega
set_option maxHeartbeats 4000000 in
set_option maxRecDepth 100000 in
theorem c_X7_group_o {l : Launch} {Δ : zDl} {ad : zK → Nat} {P : zP} {S : zS} {X : zMem} {Q Q2 : zP} {t : Int} (hV : zWM Q S) (ht : 0 ≤ t ∧ t < Q 0 0 0) (h61 : Q 61 0 0 = P 61 0 0) (h3 : Q 3 0 0 < 4) (hg : zgg Q Q2 t) : zMn l Δ yX7_group cX7_group 3 (some .int) 9 0 0 [.ref (ad (40, 0, 0, 0)), .int (zI t)] ad (mm Δ ad P S X) (zD (some (.int (zI (Q 3 0 0)))) ad (mm Δ ad P (msa Q2 (zst (lp (mgn1 (Q 3 0 0) t) 0 4 (zst (zst S (40, 0, 0, 0) 0 0) (64, 0, 0, 0) (Q 3 0 0) t)) (40, 0, 0, 0) 23 ((Q 3 0 0) + 1))) X)) := by
  refine zMn_of (by decide) (Nat.le_of_ble_eq_true rfl) (fun Γ hl hΔ hF => ?_)
  subst hl hΔ
  show G Γ _ _ _ RX7 _ _ _ _ _ [(0, .ref (ad (40, 0, 0, 0))), (1, .int (zI t))] []
  have hq := hV.q
  have hqt := hV.qt ht
  have h612 : Q2 61 0 0 = P 61 0 0 := (hg.1 61 0 0 (by decide) (by decide) (by decide) (by decide)).trans h61
  refine G_aload_n (pc := 0) 0 0 dX7_group_0 rfl rfl ?_
  refine G_iconst (pc := 1) dX7_group_1 ?_
  refine G_putf (pc := 2) fl_X7_93 fp_X7_0 dX7_group_2 mg_40 (Nat.le_of_ble_eq_true rfl) rfl rfl (mp_40_0 _) ?_
  refine G_name (fun S1_2 hS1_2 => ?_)
  have hVS1_2 : zWM Q S1_2 := by rw [hS1_2]; exact hV.s40_0 (by first | assumption | exact ⟨by omega, by omega⟩)
  have h44 := hVS1_2.t4
  have h23 := hVS1_2.g23
  refine G_aload_n (pc := 5) 0 0 dX7_group_5 rfl rfl ?_
  refine G_iload_n (pc := 6) 1 1 dX7_group_6 rfl rfl ?_
  refine G_callVd (pc := 7) gk_X7_103 dX7_group_7 mg_40 rfl (c_X7_isTopic (Q := Q) (by first | assumption | omega | exact ⟨by omega, by omega⟩ | exact hS _ _ | exact hT _ _) (by first | assumption | omega | exact ⟨by omega, by omega⟩ | exact hS _ _ | exact hT _ _)) rfl rfl (Nat.le_of_ble_eq_true rfl) ⟨⟨Nat.le_of_ble_eq_true rfl, Nat.le_of_ble_eq_true rfl⟩, Nat.le_of_ble_eq_true rfl, Nat.le_of_ble_eq_true rfl⟩ ?_
  refine G_if_ne_b (pc := 10) 19 dX7_group_10 (by decide) (fun c10 => ?_) (fun c10 => ?_)
  · refine G_aload_n (pc := 19) 0 0 dX7_group_19 rfl rfl ?_
    refine G_getf (pc := 20) fl_X7_107 dX7_group_20 mg_40 rfl ?_
    refine G_iconst (pc := 23) dX7_group_23 ?_
    refine G_icmp_ne (pc := 24) 33 dX7_group_24 (by decide) (by first | exact hS _ _ | exact hT _ _ | exact ⟨by omega, by omega⟩ | assumption | exact zWM.r (by assumption) _ _ (by decide)) (by first | exact hS _ _ | exact hT _ _ | exact ⟨by omega, by omega⟩ | assumption | exact zWM.r (by assumption) _ _ (by decide)) (fun c24 => ?_) (fun c24 => ?_)
    · refine G_aload_n (pc := 33) 0 0 dX7_group_33 rfl rfl ?_
      refine G_getf (pc := 34) fl_X7_66 dX7_group_34 mg_40 rfl ?_
      refine G_aload_n (pc := 37) 0 0 dX7_group_37 rfl rfl ?_
      refine G_getf (pc := 38) fl_X7_107 dX7_group_38 mg_40 rfl ?_
      refine G_iload_n (pc := 41) 1 1 dX7_group_41 rfl rfl ?_
      refine G_iast (pc := 42) dX7_group_42 mg_64 ⟨by omega, by omega, by omega, by omega⟩ (mp_64 _ _) ?_
      refine G_name (fun S2_42 hS2_42 => ?_)
      have hVS2_42 : zWM Q S2_42 := by rw [hS2_42]; exact hVS1_2.s64n (by omega) ⟨by omega, by omega⟩
      have h64 : S2_42 (64, 0, 0, 0) (Q 3 0 0) = t := by rw [hS2_42, h23, zst_s]
      refine G_iconst (pc := 43) dX7_group_43 ?_
      refine G_istore_ne (pc := 44) 2 (fun zw => [(2, .int (zI zw)), (0, .ref (ad (40, 0, 0, 0))), (1, .int (zI t))]) dX7_group_44 rfl (by decide) (fun _ => rfl) (fun v44 e44 => ?_)
      have L45 : ∀ (n : Nat) (p : Int) (T : zS), ((0 ≤ p ∧ p ≤ 4) ∧ lp (mgn1 (Q 3 0 0) t) p 4 T = lp (mgn1 (Q 3 0 0) t) 0 4 S2_42 ∧ zWM Q T ∧ T (64, 0, 0, 0) (Q 3 0 0) = t) → (4 - p).toNat < n → G Γ (zRm 9 0 0) cX7_group 3 RX7 ad (mm (z_d Γ) ad P T X) 0 0 45 [(0, .ref (ad (40, 0, 0, 0))), (1, .int (zI t)), (2, .int (zI p))] [] := by
        intro n
        induction n with
        | zero => intro p T _ hn; omega
        | succ n ih45 =>
          intro p T hi45 hn45
          obtain ⟨hp0, hz, hTV, h64T⟩ := hi45
          have h23T := hTV.g23
          refine G_iload_n (pc := 45) 2 2 dX7_group_45 rfl rfl ?_
          refine G_iconst (pc := 46) dX7_group_46 ?_
          refine G_icmp_ge (pc := 47) 119 dX7_group_47 (by decide) (by first | exact hS _ _ | exact hT _ _ | exact ⟨by omega, by omega⟩ | assumption | exact zWM.r (by assumption) _ _ (by decide)) (by first | exact hS _ _ | exact hT _ _ | exact ⟨by omega, by omega⟩ | assumption | exact zWM.r (by assumption) _ _ (by decide)) (fun c47 => ?_) (fun c47 => ?_)
          · have hz8 := hz
            rw [lp_end (a := p) (by omega)] at hz8
            refine G_aload_n (pc := 119) 0 0 dX7_group_119 rfl rfl ?_
            refine G_dup (pc := 120) dX7_group_120 rfl ?_
            refine G_getf (pc := 121) fl_X7_107 dX7_group_121 mg_40 rfl ?_
            refine G_iconst (pc := 124) dX7_group_124 ?_
            refine G_iadd (pc := 125) dX7_group_125 ?_
            refine G_putf (pc := 126) fl_X7_107 fp_X7_23 dX7_group_126 mg_40 (Nat.le_of_ble_eq_true rfl) rfl rfl (mp_40_23 _) ?_
            refine G_name (fun S3_126 hS3_126 => ?_)
            have hV9 : zWM Q2 S3_126 := by rw [hS3_126]; exact hTV.group ht hg h3 h64T
            refine G_aload_n (pc := 129) 0 0 dX7_group_129 rfl rfl ?_
            refine G_callVv (pc := 130) gk_X7_146 dX7_group_130 mg_40 rfl (c_X7_settle (Q := Q2) (by first | assumption | omega | exact ⟨by omega, by omega⟩ | exact hS _ _ | exact hT _ _) (by first | assumption | omega | exact ⟨by omega, by omega⟩ | exact hS _ _ | exact hT _ _)) rfl rfl (Nat.le_of_ble_eq_true rfl) ⟨⟨Nat.le_of_ble_eq_true rfl, Nat.le_of_ble_eq_true rfl⟩, Nat.le_of_ble_eq_true rfl, Nat.le_of_ble_eq_true rfl⟩ ?_
            refine G_name (fun S4_130 hS4_130 => ?_)
            have hfr : zfr (fun n => n == 65 || n == 66) S3_126 S4_130 := by rw [hS4_130]; exact msa_fr rfl rfl
            have h239 : S4_130 (40, 0, 0, 0) 23 = Q 3 0 0 + 1 := by rw [hfr (40, 0, 0, 0) 23 rfl, hS3_126, zst_s, h23T]
            have hSfin : S3_126 = zst (lp (mgn1 (Q 3 0 0) t) 0 4 (zst (zst S (40, 0, 0, 0) 0 0) (64, 0, 0, 0) (Q 3 0 0) t)) (40, 0, 0, 0) 23 ((Q 3 0 0) + 1) := by rw [hS3_126, h23T, hz8, hS2_42, h23, hS1_2]
            refine G_aload_n (pc := 133) 0 0 dX7_group_133 rfl rfl ?_
            refine G_getf (pc := 134) fl_X7_107 dX7_group_134 mg_40 rfl ?_
            refine G_iconst (pc := 137) dX7_group_137 ?_
            refine G_isub (pc := 138) dX7_group_138 ?_
            exact G_iret_m (pc := 139) hF dX7_group_139 ⟨Nat.le_of_ble_eq_true rfl, Nat.le_of_ble_eq_true rfl⟩ (by omega) (by rw [hS4_130, hSfin])
          · have hb47 := hTV.b47 (t * 4 + p)
            refine G_aload_n (pc := 50) 0 0 dX7_group_50 rfl rfl ?_
            refine G_getf (pc := 51) fl_X7_69 dX7_group_51 mg_40 rfl ?_
            refine G_aload_n (pc := 54) 0 0 dX7_group_54 rfl rfl ?_
            refine G_getf (pc := 55) fl_X7_107 dX7_group_55 mg_40 rfl ?_
            refine G_iconst (pc := 58) dX7_group_58 ?_
            refine G_imul (pc := 59) dX7_group_59 ?_
            refine G_iload_n (pc := 60) 2 2 dX7_group_60 rfl rfl ?_
            refine G_iadd (pc := 61) dX7_group_61 ?_
            refine G_aload_n (pc := 62) 0 0 dX7_group_62 rfl rfl ?_
            refine G_getf (pc := 63) fl_X7_23 dX7_group_63 mg_40 rfl ?_
            refine G_iload_n (pc := 66) 1 1 dX7_group_66 rfl rfl ?_
            refine G_iconst (pc := 67) dX7_group_67 ?_
            refine G_imul (pc := 68) dX7_group_68 ?_
            refine G_iload_n (pc := 69) 2 2 dX7_group_69 rfl rfl ?_
            refine G_iadd (pc := 70) dX7_group_70 ?_
            refine G_iald (pc := 71) dX7_group_71 mg_47 ⟨by omega, by omega, by omega, by omega⟩ ?_
            have hb71 := hTV.b47 ((t * 4) + p)
            refine G_iast (pc := 72) dX7_group_72 mg_65 ⟨by omega, by omega, by omega, by omega⟩ (mp_65 _ _) ?_
            refine G_name (fun S5_72 hS5_72 => ?_)
            have hVS5_72 : zWM Q S5_72 := by rw [hS5_72]; exact hTV.s65 ⟨by omega, by omega⟩
            have h232 : S5_72 (40, 0, 0, 0) 23 = Q 3 0 0 := hVS5_72.g23
            have hmk : S5_72 (65, 0, 0, 0) (Q 3 0 0 * 4 + p) = T (47, 0, 0, 0) (t * 4 + p) := by rw [hS5_72, h23T, zst_s]
            refine G_aload_n (pc := 73) 0 0 dX7_group_73 rfl rfl ?_
            refine G_getf (pc := 74) fl_X7_72 dX7_group_74 mg_40 rfl ?_
            refine G_aload_n (pc := 77) 0 0 dX7_group_77 rfl rfl ?_
            refine G_getf (pc := 78) fl_X7_107 dX7_group_78 mg_40 rfl ?_
            refine G_iconst (pc := 81) dX7_group_81 ?_
            refine G_imul (pc := 82) dX7_group_82 ?_
            refine G_iload_n (pc := 83) 2 2 dX7_group_83 rfl rfl ?_
            refine G_iadd (pc := 84) dX7_group_84 ?_
            refine G_aload_n (pc := 85) 0 0 dX7_group_85 rfl rfl ?_
            have hmk2 : S5_72 (65, 0, 0, 0) (S5_72 (40, 0, 0, 0) 23 * 4 + p) = T (47, 0, 0, 0) (t * 4 + p) := by rw [h232]; exact hmk
            refine G_getf (pc := 86) fl_X7_69 dX7_group_86 mg_40 rfl ?_
            refine G_aload_n (pc := 89) 0 0 dX7_group_89 rfl rfl ?_
            refine G_getf (pc := 90) fl_X7_107 dX7_group_90 mg_40 rfl ?_
            refine G_iconst (pc := 93) dX7_group_93 ?_
            refine G_imul (pc := 94) dX7_group_94 ?_
            refine G_iload_n (pc := 95) 2 2 dX7_group_95 rfl rfl ?_
            refine G_iadd (pc := 96) dX7_group_96 ?_
            refine G_iald (pc := 97) dX7_group_97 mg_65 ⟨by omega, by omega, by omega, by omega⟩ ?_
            have hb97 := hVS5_72.b65 (((S5_72 (40, 0, 0, 0) 23) * 4) + p)
            refine G_iast (pc := 98) dX7_group_98 mg_66 ⟨by omega, by omega, by omega, by omega⟩ (mp_66 _ _) ?_
            refine G_name (fun S6_98 hS6_98 => ?_)
            have hVS6_98 : zWM Q S6_98 := by rw [hS6_98]; exact hVS5_72.s66 ⟨by omega, by omega⟩
            have h233 : S6_98 (40, 0, 0, 0) 23 = Q 3 0 0 := hVS6_98.g23
            refine G_aload_n (pc := 99) 0 0 dX7_group_99 rfl rfl ?_
            refine G_getf (pc := 100) fl_X7_75 dX7_group_100 mg_40 rfl ?_
            refine G_aload_n (pc := 103) 0 0 dX7_group_103 rfl rfl ?_
            refine G_getf (pc := 104) fl_X7_107 dX7_group_104 mg_40 rfl ?_
            refine G_iconst (pc := 107) dX7_group_107 ?_
            refine G_imul (pc := 108) dX7_group_108 ?_
            refine G_iload_n (pc := 109) 2 2 dX7_group_109 rfl rfl ?_
            refine G_iadd (pc := 110) dX7_group_110 ?_
            refine G_iconst (pc := 111) dX7_group_111 ?_
            refine G_iast (pc := 112) dX7_group_112 mg_67 ⟨by omega, by omega, by omega, by omega⟩ (mp_67 _ _) ?_
            refine G_name (fun S7_112 hS7_112 => ?_)
            have hVS7_112 : zWM Q S7_112 := by rw [hS7_112]; exact hVS6_98.s67 ⟨by omega, by omega⟩
            have hz7 : mgn1 (Q 3 0 0) t p T = S7_112 := by rw [hS7_112, h233, hS6_98, h232, hmk, hS5_72, h23T]; rfl
            have h64b : S7_112 (64, 0, 0, 0) (Q 3 0 0) = t := by rw [hS7_112, zst_k _ _ _ _ (by simp), hS6_98, zst_k _ _ _ _ (by simp), hS5_72, zst_k _ _ _ _ (by simp)]; exact h64T
            refine G_iinc_e (pc := 113) 2 (fun zw => [(2, .int (zI zw)), (0, .ref (ad (40, 0, 0, 0))), (1, .int (zI t))]) dX7_group_113 rfl (by decide) (fun _ => rfl) (fun v113 e113 => ?_)
            refine G_goto (pc := 116) 45 dX7_group_116 (by decide) ?_
            refine G_perm (lv' := [(0, .ref (ad (40, 0, 0, 0))), (1, .int (zI t)), (2, .int (zI v113))]) [1, 2, 0] rfl ?_
            exact ih45 v113 S7_112 ⟨by omega, by rw [e113, ← hz, lp_step (a := p) (n := 4) (by omega), hz7], by assumption, h64b⟩ (by omega)
      refine G_perm (lv' := [(0, .ref (ad (40, 0, 0, 0))), (1, .int (zI t)), (2, .int (zI v44))]) [1, 2, 0] rfl ?_
      exact L45 _ v44 S2_42 ⟨by omega, by rw [e44], by assumption, h64⟩ (Nat.lt_succ_self _)
    · exfalso
      omega
  · exfalso
    omega
