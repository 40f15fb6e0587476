set_option maxHeartbeats 4000000 in
set_option maxRecDepth 100000 in
theorem c_X7_topic_y {l : Launch} {Δ : zDl} {ad : zK → Nat} {P : zP} {S : zS} {X : zMem} {Q : zP} {n b : Int} (hV : zWM Q S) (hrn : zR n) (hn : ¬ (1 ≤ n ∧ n ≤ 4)) : zMn l Δ yX7_topic cX7_topic 3 (some .int) 9 0 0 [.ref (ad (40, 0, 0, 0)), .int (zI n), .int (zI b)] ad (mm Δ ad P S X) (zD (some (.int (zI 0))) ad (mm Δ ad P (zst S (40, 0, 0, 0) 0 1) X)) := by
  refine zMn_of (by decide) (Nat.le_of_ble_eq_true rfl) (fun Γ hl hΔ hF => ?_)
  subst hl hΔ
  show G Γ _ _ _ RX7 _ _ _ _ _ [(0, .ref (ad (40, 0, 0, 0))), (1, .int (zI n)), (2, .int (zI b))] []
  have hq := hV.q
  refine G_aload_n (pc := 0) 0 0 dX7_topic_0 rfl rfl ?_
  refine G_iconst (pc := 1) dX7_topic_1 ?_
  refine G_putf (pc := 2) fl_X7_93 fp_X7_0 dX7_topic_2 mg_40 (Nat.le_of_ble_eq_true rfl) rfl rfl (mp_40_0 _) ?_
  refine G_name (fun S1_2 hS1_2 => ?_)
  have hVS1_2 : zWM Q S1_2 := by rw [hS1_2]; exact hV.s40_0 (by first | assumption | exact ⟨by omega, by omega⟩)
  have h44 := hVS1_2.t4
  refine G_iload_n (pc := 5) 1 1 dX7_topic_5 rfl rfl ?_
  refine G_iconst (pc := 6) dX7_topic_6 ?_
  refine G_iconst (pc := 7) dX7_topic_7 ?_
  refine G_callSd (pc := 8) gk_X7_99 dX7_topic_8 (c_X7_isWithin (by first | assumption | omega | exact ⟨by omega, by omega⟩ | exact hS _ _ | exact hT _ _) (by first | assumption | omega | exact ⟨by omega, by omega⟩ | exact hS _ _ | exact hT _ _) (by first | assumption | omega | exact ⟨by omega, by omega⟩ | exact hS _ _ | exact hT _ _)) rfl rfl (Nat.le_of_ble_eq_true rfl) ⟨⟨Nat.le_of_ble_eq_true rfl, Nat.le_of_ble_eq_true rfl⟩, Nat.le_of_ble_eq_true rfl, Nat.le_of_ble_eq_true rfl⟩ ?_
  refine G_if_ne_b (pc := 11) 20 dX7_topic_11 (by decide) (fun c11 => ?_) (fun c11 => ?_)
  · exfalso
    omega
  · refine G_aload_n (pc := 14) 0 0 dX7_topic_14 rfl rfl ?_
    refine G_iconst (pc := 15) dX7_topic_15 ?_
    refine G_callVd (pc := 16) gk_X7_134 dX7_topic_16 mg_40 rfl (c_X7_no (Q := Q) (by first | assumption | omega | exact ⟨by omega, by omega⟩ | exact hS _ _ | exact hT _ _) (by first | assumption | omega | exact ⟨by omega, by omega⟩ | exact hS _ _ | exact hT _ _)) rfl rfl (Nat.le_of_ble_eq_true rfl) ⟨⟨Nat.le_of_ble_eq_true rfl, Nat.le_of_ble_eq_true rfl⟩, Nat.le_of_ble_eq_true rfl, Nat.le_of_ble_eq_true rfl⟩ ?_
    refine G_name (fun S2_16 hS2_16 => ?_)
    have hVS2_16 : zWM Q S2_16 := by rw [hS2_16]; exact hVS1_2.s40_0 (by first | assumption | exact ⟨by omega, by omega⟩)
    exact G_iret_m (pc := 19) hF dX7_topic_19 ⟨Nat.le_of_ble_eq_true rfl, Nat.le_of_ble_eq_true rfl⟩ (by first | rfl | omega | simp_all) (by rw [hS2_16, hS1_2, zst_zst])
set_option maxHeartbeats 4000000 in
set_option maxRecDepth 100000 in
theorem c_X7_topic_z {l : Launch} {Δ : zDl} {ad : zK → Nat} {P : zP} {S : zS} {X : zMem} {Q : zP} {n b : Int} (hV : zWM Q S) (hn : 1 ≤ n ∧ n ≤ 4) (h4 : Q 0 0 0 = 4) : zMn l Δ yX7_topic cX7_topic 3 (some .int) 9 0 0 [.ref (ad (40, 0, 0, 0)), .int (zI n), .int (zI b)] ad (mm Δ ad P S X) (zD (some (.int (zI 0))) ad (mm Δ ad P (zst S (40, 0, 0, 0) 0 2) X)) := by
  refine zMn_of (by decide) (Nat.le_of_ble_eq_true rfl) (fun Γ hl hΔ hF => ?_)
  subst hl hΔ
  show G Γ _ _ _ RX7 _ _ _ _ _ [(0, .ref (ad (40, 0, 0, 0))), (1, .int (zI n)), (2, .int (zI b))] []
  have hq := hV.q
  refine G_aload_n (pc := 0) 0 0 dX7_topic_0 rfl rfl ?_
  refine G_iconst (pc := 1) dX7_topic_1 ?_
  refine G_putf (pc := 2) fl_X7_93 fp_X7_0 dX7_topic_2 mg_40 (Nat.le_of_ble_eq_true rfl) rfl rfl (mp_40_0 _) ?_
  refine G_name (fun S1_2 hS1_2 => ?_)
  have hVS1_2 : zWM Q S1_2 := by rw [hS1_2]; exact hV.s40_0 (by first | assumption | exact ⟨by omega, by omega⟩)
  have h44 := hVS1_2.t4
  refine G_iload_n (pc := 5) 1 1 dX7_topic_5 rfl rfl ?_
  refine G_iconst (pc := 6) dX7_topic_6 ?_
  refine G_iconst (pc := 7) dX7_topic_7 ?_
  refine G_callSd (pc := 8) gk_X7_99 dX7_topic_8 (c_X7_isWithin (by first | assumption | omega | exact ⟨by omega, by omega⟩ | exact hS _ _ | exact hT _ _) (by first | assumption | omega | exact ⟨by omega, by omega⟩ | exact hS _ _ | exact hT _ _) (by first | assumption | omega | exact ⟨by omega, by omega⟩ | exact hS _ _ | exact hT _ _)) rfl rfl (Nat.le_of_ble_eq_true rfl) ⟨⟨Nat.le_of_ble_eq_true rfl, Nat.le_of_ble_eq_true rfl⟩, Nat.le_of_ble_eq_true rfl, Nat.le_of_ble_eq_true rfl⟩ ?_
  refine G_if_ne_b (pc := 11) 20 dX7_topic_11 (by decide) (fun c11 => ?_) (fun c11 => ?_)
  · refine G_aload_n (pc := 20) 0 0 dX7_topic_20 rfl rfl ?_
    refine G_getf (pc := 21) fl_X7_96 dX7_topic_21 mg_40 rfl ?_
    refine G_iconst (pc := 24) dX7_topic_24 ?_
    refine G_icmp_ne (pc := 25) 34 dX7_topic_25 (by decide) (by first | exact hS _ _ | exact hT _ _ | exact ⟨by omega, by omega⟩ | assumption | exact zWM.r (by assumption) _ _ (by decide)) (by first | exact hS _ _ | exact hT _ _ | exact ⟨by omega, by omega⟩ | assumption | exact zWM.r (by assumption) _ _ (by decide)) (fun c25 => ?_) (fun c25 => ?_)
    · exfalso
      omega
    · refine G_aload_n (pc := 28) 0 0 dX7_topic_28 rfl rfl ?_
      refine G_iconst (pc := 29) dX7_topic_29 ?_
      refine G_callVd (pc := 30) gk_X7_134 dX7_topic_30 mg_40 rfl (c_X7_no (Q := Q) (by first | assumption | omega | exact ⟨by omega, by omega⟩ | exact hS _ _ | exact hT _ _) (by first | assumption | omega | exact ⟨by omega, by omega⟩ | exact hS _ _ | exact hT _ _)) rfl rfl (Nat.le_of_ble_eq_true rfl) ⟨⟨Nat.le_of_ble_eq_true rfl, Nat.le_of_ble_eq_true rfl⟩, Nat.le_of_ble_eq_true rfl, Nat.le_of_ble_eq_true rfl⟩ ?_
      refine G_name (fun S2_30 hS2_30 => ?_)
      have hVS2_30 : zWM Q S2_30 := by rw [hS2_30]; exact hVS1_2.s40_0 (by first | assumption | exact ⟨by omega, by omega⟩)
      exact G_iret_m (pc := 33) hF dX7_topic_33 ⟨Nat.le_of_ble_eq_true rfl, Nat.le_of_ble_eq_true rfl⟩ (by first | rfl | omega | simp_all) (by rw [hS2_30, hS1_2, zst_zst])
  · exfalso
    omega
set_option maxHeartbeats 4000000 in
set_option maxRecDepth 100000 in
theorem c_X7_topic {l : Launch} {Δ : zDl} {ad : zK → Nat} {P : zP} {S : zS} {X : zMem} {Q : zP} {n b : Int} (hV : zWM Q S) (hn : 1 ≤ n ∧ n ≤ 4) (h4 : Q 0 0 0 < 4) (hb : b = 0 ∨ b = 1) : zMn l Δ yX7_topic cX7_topic 3 (some .int) 9 0 0 [.ref (ad (40, 0, 0, 0)), .int (zI n), .int (zI b)] ad (mm Δ ad P S X) (zD (some (.int (zI (Q 0 0 0)))) ad (mm Δ ad P (zst (zst (zst (zst S (40, 0, 0, 0) 0 0) (45, 0, 0, 0) (Q 0 0 0) n) (50, 0, 0, 0) (Q 0 0 0) b) (40, 0, 0, 0) 4 (Q 0 0 0 + 1)) X)) := by
  refine zMn_of (by decide) (Nat.le_of_ble_eq_true rfl) (fun Γ hl hΔ hF => ?_)
  subst hl hΔ
  show G Γ _ _ _ RX7 _ _ _ _ _ [(0, .ref (ad (40, 0, 0, 0))), (1, .int (zI n)), (2, .int (zI b))] []
  have hq := hV.q
  refine G_aload_n (pc := 0) 0 0 dX7_topic_0 rfl rfl ?_
  refine G_iconst (pc := 1) dX7_topic_1 ?_
  refine G_putf (pc := 2) fl_X7_93 fp_X7_0 dX7_topic_2 mg_40 (Nat.le_of_ble_eq_true rfl) rfl rfl (mp_40_0 _) ?_
  refine G_name (fun S1_2 hS1_2 => ?_)
  have hVS1_2 : zWM Q S1_2 := by rw [hS1_2]; exact hV.s40_0 (by first | assumption | exact ⟨by omega, by omega⟩)
  have h44 := hVS1_2.t4
  refine G_iload_n (pc := 5) 1 1 dX7_topic_5 rfl rfl ?_
  refine G_iconst (pc := 6) dX7_topic_6 ?_
  refine G_iconst (pc := 7) dX7_topic_7 ?_
  refine G_callSd (pc := 8) gk_X7_99 dX7_topic_8 (c_X7_isWithin (by first | assumption | omega | exact ⟨by omega, by omega⟩ | exact hS _ _ | exact hT _ _) (by first | assumption | omega | exact ⟨by omega, by omega⟩ | exact hS _ _ | exact hT _ _) (by first | assumption | omega | exact ⟨by omega, by omega⟩ | exact hS _ _ | exact hT _ _)) rfl rfl (Nat.le_of_ble_eq_true rfl) ⟨⟨Nat.le_of_ble_eq_true rfl, Nat.le_of_ble_eq_true rfl⟩, Nat.le_of_ble_eq_true rfl, Nat.le_of_ble_eq_true rfl⟩ ?_
  refine G_if_ne_b (pc := 11) 20 dX7_topic_11 (by decide) (fun c11 => ?_) (fun c11 => ?_)
  · refine G_aload_n (pc := 20) 0 0 dX7_topic_20 rfl rfl ?_
    refine G_getf (pc := 21) fl_X7_96 dX7_topic_21 mg_40 rfl ?_
    refine G_iconst (pc := 24) dX7_topic_24 ?_
    refine G_icmp_ne (pc := 25) 34 dX7_topic_25 (by decide) (by first | exact hS _ _ | exact hT _ _ | exact ⟨by omega, by omega⟩ | assumption | exact zWM.r (by assumption) _ _ (by decide)) (by first | exact hS _ _ | exact hT _ _ | exact ⟨by omega, by omega⟩ | assumption | exact zWM.r (by assumption) _ _ (by decide)) (fun c25 => ?_) (fun c25 => ?_)
    · refine G_aload_n (pc := 34) 0 0 dX7_topic_34 rfl rfl ?_
      refine G_getf (pc := 35) fl_X7_16 dX7_topic_35 mg_40 rfl ?_
      refine G_aload_n (pc := 38) 0 0 dX7_topic_38 rfl rfl ?_
      refine G_getf (pc := 39) fl_X7_96 dX7_topic_39 mg_40 rfl ?_
      refine G_iload_n (pc := 42) 1 1 dX7_topic_42 rfl rfl ?_
      refine G_iast (pc := 43) dX7_topic_43 mg_45 ⟨by omega, by omega, by omega, by omega⟩ (mp_45 _ _) ?_
      refine G_name (fun S2_43 hS2_43 => ?_)
      have hVS2_43 : zWM Q S2_43 := by rw [hS2_43]; exact hVS1_2.s45n (by omega) ⟨by omega, by omega⟩
      have h442 := hVS2_43.t4
      refine G_aload_n (pc := 44) 0 0 dX7_topic_44 rfl rfl ?_
      refine G_getf (pc := 45) fl_X7_32 dX7_topic_45 mg_40 rfl ?_
      refine G_aload_n (pc := 48) 0 0 dX7_topic_48 rfl rfl ?_
      refine G_getf (pc := 49) fl_X7_96 dX7_topic_49 mg_40 rfl ?_
      refine G_iload_n (pc := 52) 2 2 dX7_topic_52 rfl rfl ?_
      refine G_zast (pc := 53) dX7_topic_53 mg_50 ⟨by omega, by omega, by omega, by omega⟩ (by first | exact zb_ite | omega) (mp_50 _ _) ?_
      refine G_name (fun S3_53 hS3_53 => ?_)
      have hVS3_53 : zWM Q S3_53 := by rw [hS3_53]; exact hVS2_43.s50 ⟨by omega, by omega⟩
      have h443 := hVS3_53.t4
      refine G_aload_n (pc := 54) 0 0 dX7_topic_54 rfl rfl ?_
      refine G_dup (pc := 55) dX7_topic_55 rfl ?_
      refine G_getf (pc := 56) fl_X7_96 dX7_topic_56 mg_40 rfl ?_
      refine G_dup_x1 (pc := 59) dX7_topic_59 rfl rfl ?_
      refine G_iconst (pc := 60) dX7_topic_60 ?_
      refine G_iadd (pc := 61) dX7_topic_61 ?_
      refine G_putf (pc := 62) fl_X7_96 fp_X7_4 dX7_topic_62 mg_40 (Nat.le_of_ble_eq_true rfl) rfl rfl (mp_40_4 _) ?_
      refine G_name (fun S4_62 hS4_62 => ?_)
      exact G_iret_m (pc := 65) hF dX7_topic_65 ⟨Nat.le_of_ble_eq_true rfl, Nat.le_of_ble_eq_true rfl⟩ (by omega) (by rw [hS4_62, h443, hS3_53, h442, hS2_43, h44, hS1_2])
    · exfalso
      omega
  · exfalso
    omega
set_option maxHeartbeats 4000000 in
set_option maxRecDepth 100000 in
theorem c_X7_send_x {l : Launch} {Δ : zDl} {ad : zK → Nat} {P : zP} {S : zS} {X : zMem} {Q : zP} {t x u k v : Int} (hV : zWM Q S) (hrt : zR t) (hrx : zR x) (hru : zR u) (hrk : zR k) (hrv : zR v) (hn : ¬ ((0 ≤ t ∧ t < Q 0 0 0) ∧ (0 ≤ x ∧ x < 4))) : zMn l Δ yX7_send cX7_send 9 (some .int) 9 0 0 [.ref (ad (40, 0, 0, 0)), .int (zI t), .int (zI x), .int (zI u), .int (zI k), .int (zI v)] ad (mm Δ ad P S X) (zD (some (.int (zI 0))) ad (mm Δ ad P (zst S (40, 0, 0, 0) 0 1) X)) := by
  refine zMn_of (by decide) (Nat.le_of_ble_eq_true rfl) (fun Γ hl hΔ hF => ?_)
  subst hl hΔ
  show G Γ _ _ _ RX7 _ _ _ _ _ [(0, .ref (ad (40, 0, 0, 0))), (1, .int (zI t)), (2, .int (zI x)), (3, .int (zI u)), (4, .int (zI k)), (5, .int (zI v))] []
  have hq := hV.q
  refine G_aload_n (pc := 0) 0 0 dX7_send_0 rfl rfl ?_
  refine G_iconst (pc := 1) dX7_send_1 ?_
  refine G_putf (pc := 2) fl_X7_93 fp_X7_0 dX7_send_2 mg_40 (Nat.le_of_ble_eq_true rfl) rfl rfl (mp_40_0 _) ?_
  refine G_name (fun S1_2 hS1_2 => ?_)
  have hVS1_2 : zWM Q S1_2 := by rw [hS1_2]; exact hV.s40_0 (by first | assumption | exact ⟨by omega, by omega⟩)
  have h44 := hVS1_2.t4
  have h49 : S1_2 (49, 0, 0, 0) (t * 4 + x) = S (49, 0, 0, 0) (t * 4 + x) := by rw [hS1_2, zst_k _ _ _ _ (by simp)]
  have h11 : S1_2 (40, 0, 0, 0) 11 = S (40, 0, 0, 0) 11 := by rw [hS1_2, zst_f _ _ _ (by decide)]
  refine G_aload_n (pc := 5) 0 0 dX7_send_5 rfl rfl ?_
  refine G_iload_n (pc := 6) 1 1 dX7_send_6 rfl rfl ?_
  refine G_callVd (pc := 7) gk_X7_103 dX7_send_7 mg_40 rfl (c_X7_isTopic (Q := Q) (by first | assumption | omega | exact ⟨by omega, by omega⟩ | exact hS _ _ | exact hT _ _) (by first | assumption | omega | exact ⟨by omega, by omega⟩ | exact hS _ _ | exact hT _ _)) rfl rfl (Nat.le_of_ble_eq_true rfl) ⟨⟨Nat.le_of_ble_eq_true rfl, Nat.le_of_ble_eq_true rfl⟩, Nat.le_of_ble_eq_true rfl, Nat.le_of_ble_eq_true rfl⟩ ?_
  refine G_if_eq_b (pc := 10) 20 dX7_send_10 (by decide) (fun c10 => ?_) (fun c10 => ?_)
  · refine G_aload_n (pc := 20) 0 0 dX7_send_20 rfl rfl ?_
    refine G_iconst (pc := 21) dX7_send_21 ?_
    refine G_callVd (pc := 22) gk_X7_134 dX7_send_22 mg_40 rfl (c_X7_no (Q := Q) (by first | assumption | omega | exact ⟨by omega, by omega⟩ | exact hS _ _ | exact hT _ _) (by first | assumption | omega | exact ⟨by omega, by omega⟩ | exact hS _ _ | exact hT _ _)) rfl rfl (Nat.le_of_ble_eq_true rfl) ⟨⟨Nat.le_of_ble_eq_true rfl, Nat.le_of_ble_eq_true rfl⟩, Nat.le_of_ble_eq_true rfl, Nat.le_of_ble_eq_true rfl⟩ ?_
    refine G_name (fun S2_22 hS2_22 => ?_)
    have hVS2_22 : zWM Q S2_22 := by rw [hS2_22]; exact hVS1_2.s40_0 (by first | assumption | exact ⟨by omega, by omega⟩)
    exact G_iret_m (pc := 25) hF dX7_send_25 ⟨Nat.le_of_ble_eq_true rfl, Nat.le_of_ble_eq_true rfl⟩ (by first | rfl | omega | simp_all) (by rw [hS2_22, hS1_2, zst_zst])
  · refine G_iload_n (pc := 13) 2 2 dX7_send_13 rfl rfl ?_
    refine G_callSd (pc := 14) gk_X7_137 dX7_send_14 (c_X7_isProducer (by first | assumption | omega | exact ⟨by omega, by omega⟩ | exact hS _ _ | exact hT _ _)) rfl rfl (Nat.le_of_ble_eq_true rfl) ⟨⟨Nat.le_of_ble_eq_true rfl, Nat.le_of_ble_eq_true rfl⟩, Nat.le_of_ble_eq_true rfl, Nat.le_of_ble_eq_true rfl⟩ ?_
    refine G_if_ne_b (pc := 17) 26 dX7_send_17 (by decide) (fun c17 => ?_) (fun c17 => ?_)
    · exfalso
      omega
    · refine G_aload_n (pc := 20) 0 0 dX7_send_20 rfl rfl ?_
      refine G_iconst (pc := 21) dX7_send_21 ?_
      refine G_callVd (pc := 22) gk_X7_134 dX7_send_22 mg_40 rfl (c_X7_no (Q := Q) (by first | assumption | omega | exact ⟨by omega, by omega⟩ | exact hS _ _ | exact hT _ _) (by first | assumption | omega | exact ⟨by omega, by omega⟩ | exact hS _ _ | exact hT _ _)) rfl rfl (Nat.le_of_ble_eq_true rfl) ⟨⟨Nat.le_of_ble_eq_true rfl, Nat.le_of_ble_eq_true rfl⟩, Nat.le_of_ble_eq_true rfl, Nat.le_of_ble_eq_true rfl⟩ ?_
      refine G_name (fun S3_22 hS3_22 => ?_)
      have hVS3_22 : zWM Q S3_22 := by rw [hS3_22]; exact hVS1_2.s40_0 (by first | assumption | exact ⟨by omega, by omega⟩)
      exact G_iret_m (pc := 25) hF dX7_send_25 ⟨Nat.le_of_ble_eq_true rfl, Nat.le_of_ble_eq_true rfl⟩ (by first | rfl | omega | simp_all) (by rw [hS3_22, hS1_2, zst_zst])
set_option maxHeartbeats 4000000 in
set_option maxRecDepth 100000 in
theorem c_X7_send_y {l : Launch} {Δ : zDl} {ad : zK → Nat} {P : zP} {S : zS} {X : zMem} {Q : zP} {t x u k v : Int} (hV : zWM Q S) (ht : 0 ≤ t ∧ t < Q 0 0 0) (hx : 0 ≤ x ∧ x < 4) (hru : zR u) (hrk : zR k) (hrv : zR v) (hn : ¬ (0 ≤ u ∧ (-1 ≤ k ∧ k ≤ 9) ∧ (0 ≤ v ∧ v ≤ 999))) : zMn l Δ yX7_send cX7_send 9 (some .int) 9 0 0 [.ref (ad (40, 0, 0, 0)), .int (zI t), .int (zI x), .int (zI u), .int (zI k), .int (zI v)] ad (mm Δ ad P S X) (zD (some (.int (zI 0))) ad (mm Δ ad P (zst S (40, 0, 0, 0) 0 2) X)) := by
  refine zMn_of (by decide) (Nat.le_of_ble_eq_true rfl) (fun Γ hl hΔ hF => ?_)
  subst hl hΔ
  show G Γ _ _ _ RX7 _ _ _ _ _ [(0, .ref (ad (40, 0, 0, 0))), (1, .int (zI t)), (2, .int (zI x)), (3, .int (zI u)), (4, .int (zI k)), (5, .int (zI v))] []
  have hq := hV.q
  refine G_aload_n (pc := 0) 0 0 dX7_send_0 rfl rfl ?_
  refine G_iconst (pc := 1) dX7_send_1 ?_
  refine G_putf (pc := 2) fl_X7_93 fp_X7_0 dX7_send_2 mg_40 (Nat.le_of_ble_eq_true rfl) rfl rfl (mp_40_0 _) ?_
  refine G_name (fun S1_2 hS1_2 => ?_)
  have hVS1_2 : zWM Q S1_2 := by rw [hS1_2]; exact hV.s40_0 (by first | assumption | exact ⟨by omega, by omega⟩)
  have h44 := hVS1_2.t4
  have h49 : S1_2 (49, 0, 0, 0) (t * 4 + x) = S (49, 0, 0, 0) (t * 4 + x) := by rw [hS1_2, zst_k _ _ _ _ (by simp)]
  have h11 : S1_2 (40, 0, 0, 0) 11 = S (40, 0, 0, 0) 11 := by rw [hS1_2, zst_f _ _ _ (by decide)]
  refine G_aload_n (pc := 5) 0 0 dX7_send_5 rfl rfl ?_
  refine G_iload_n (pc := 6) 1 1 dX7_send_6 rfl rfl ?_
  refine G_callVd (pc := 7) gk_X7_103 dX7_send_7 mg_40 rfl (c_X7_isTopic (Q := Q) (by first | assumption | omega | exact ⟨by omega, by omega⟩ | exact hS _ _ | exact hT _ _) (by first | assumption | omega | exact ⟨by omega, by omega⟩ | exact hS _ _ | exact hT _ _)) rfl rfl (Nat.le_of_ble_eq_true rfl) ⟨⟨Nat.le_of_ble_eq_true rfl, Nat.le_of_ble_eq_true rfl⟩, Nat.le_of_ble_eq_true rfl, Nat.le_of_ble_eq_true rfl⟩ ?_
  refine G_if_eq_b (pc := 10) 20 dX7_send_10 (by decide) (fun c10 => ?_) (fun c10 => ?_)
  · exfalso
    omega
  · refine G_iload_n (pc := 13) 2 2 dX7_send_13 rfl rfl ?_
    refine G_callSd (pc := 14) gk_X7_137 dX7_send_14 (c_X7_isProducer (by first | assumption | omega | exact ⟨by omega, by omega⟩ | exact hS _ _ | exact hT _ _)) rfl rfl (Nat.le_of_ble_eq_true rfl) ⟨⟨Nat.le_of_ble_eq_true rfl, Nat.le_of_ble_eq_true rfl⟩, Nat.le_of_ble_eq_true rfl, Nat.le_of_ble_eq_true rfl⟩ ?_
    refine G_if_ne_b (pc := 17) 26 dX7_send_17 (by decide) (fun c17 => ?_) (fun c17 => ?_)
    · refine G_iload_n (pc := 26) 3 3 dX7_send_26 rfl rfl ?_
      refine G_if_lt (pc := 27) 53 dX7_send_27 (by decide) (by first | exact hS _ _ | exact hT _ _ | exact ⟨by omega, by omega⟩ | assumption | exact zWM.r (by assumption) _ _ (by decide)) (fun c27 => ?_) (fun c27 => ?_)
      · refine G_aload_n (pc := 53) 0 0 dX7_send_53 rfl rfl ?_
        refine G_iconst (pc := 54) dX7_send_54 ?_
        refine G_callVd (pc := 55) gk_X7_134 dX7_send_55 mg_40 rfl (c_X7_no (Q := Q) (by first | assumption | omega | exact ⟨by omega, by omega⟩ | exact hS _ _ | exact hT _ _) (by first | assumption | omega | exact ⟨by omega, by omega⟩ | exact hS _ _ | exact hT _ _)) rfl rfl (Nat.le_of_ble_eq_true rfl) ⟨⟨Nat.le_of_ble_eq_true rfl, Nat.le_of_ble_eq_true rfl⟩, Nat.le_of_ble_eq_true rfl, Nat.le_of_ble_eq_true rfl⟩ ?_
        refine G_name (fun S2_55 hS2_55 => ?_)
        have hVS2_55 : zWM Q S2_55 := by rw [hS2_55]; exact hVS1_2.s40_0 (by first | assumption | exact ⟨by omega, by omega⟩)
        exact G_iret_m (pc := 58) hF dX7_send_58 ⟨Nat.le_of_ble_eq_true rfl, Nat.le_of_ble_eq_true rfl⟩ (by first | rfl | omega | simp_all) (by rw [hS2_55, hS1_2, zst_zst])
      · refine G_iload (pc := 30) 4 dX7_send_30 rfl ?_
        refine G_iconst (pc := 32) dX7_send_32 ?_
        refine G_bipush (pc := 33) dX7_send_33 (by decide) ?_
        refine G_callSd (pc := 35) gk_X7_99 dX7_send_35 (c_X7_isWithin (by first | assumption | omega | exact ⟨by omega, by omega⟩ | exact hS _ _ | exact hT _ _) (by first | assumption | omega | exact ⟨by omega, by omega⟩ | exact hS _ _ | exact hT _ _) (by first | assumption | omega | exact ⟨by omega, by omega⟩ | exact hS _ _ | exact hT _ _)) rfl rfl (Nat.le_of_ble_eq_true rfl) ⟨⟨Nat.le_of_ble_eq_true rfl, Nat.le_of_ble_eq_true rfl⟩, Nat.le_of_ble_eq_true rfl, Nat.le_of_ble_eq_true rfl⟩ ?_
        refine G_if_eq_b (pc := 38) 53 dX7_send_38 (by decide) (fun c38 => ?_) (fun c38 => ?_)
        · refine G_aload_n (pc := 53) 0 0 dX7_send_53 rfl rfl ?_
          refine G_iconst (pc := 54) dX7_send_54 ?_
          refine G_callVd (pc := 55) gk_X7_134 dX7_send_55 mg_40 rfl (c_X7_no (Q := Q) (by first | assumption | omega | exact ⟨by omega, by omega⟩ | exact hS _ _ | exact hT _ _) (by first | assumption | omega | exact ⟨by omega, by omega⟩ | exact hS _ _ | exact hT _ _)) rfl rfl (Nat.le_of_ble_eq_true rfl) ⟨⟨Nat.le_of_ble_eq_true rfl, Nat.le_of_ble_eq_true rfl⟩, Nat.le_of_ble_eq_true rfl, Nat.le_of_ble_eq_true rfl⟩ ?_
          refine G_name (fun S3_55 hS3_55 => ?_)
          have hVS3_55 : zWM Q S3_55 := by rw [hS3_55]; exact hVS1_2.s40_0 (by first | assumption | exact ⟨by omega, by omega⟩)
          exact G_iret_m (pc := 58) hF dX7_send_58 ⟨Nat.le_of_ble_eq_true rfl, Nat.le_of_ble_eq_true rfl⟩ (by first | rfl | omega | simp_all) (by rw [hS3_55, hS1_2, zst_zst])
        · refine G_iload (pc := 41) 5 dX7_send_41 rfl ?_
          refine G_iconst (pc := 43) dX7_send_43 ?_
          refine G_sipush (pc := 44) dX7_send_44 (by decide) ?_
          refine G_callSd (pc := 47) gk_X7_99 dX7_send_47 (c_X7_isWithin (by first | assumption | omega | exact ⟨by omega, by omega⟩ | exact hS _ _ | exact hT _ _) (by first | assumption | omega | exact ⟨by omega, by omega⟩ | exact hS _ _ | exact hT _ _) (by first | assumption | omega | exact ⟨by omega, by omega⟩ | exact hS _ _ | exact hT _ _)) rfl rfl (Nat.le_of_ble_eq_true rfl) ⟨⟨Nat.le_of_ble_eq_true rfl, Nat.le_of_ble_eq_true rfl⟩, Nat.le_of_ble_eq_true rfl, Nat.le_of_ble_eq_true rfl⟩ ?_
          refine G_if_ne_b (pc := 50) 59 dX7_send_50 (by decide) (fun c50 => ?_) (fun c50 => ?_)
          · exfalso
            omega
          · refine G_aload_n (pc := 53) 0 0 dX7_send_53 rfl rfl ?_
            refine G_iconst (pc := 54) dX7_send_54 ?_
            refine G_callVd (pc := 55) gk_X7_134 dX7_send_55 mg_40 rfl (c_X7_no (Q := Q) (by first | assumption | omega | exact ⟨by omega, by omega⟩ | exact hS _ _ | exact hT _ _) (by first | assumption | omega | exact ⟨by omega, by omega⟩ | exact hS _ _ | exact hT _ _)) rfl rfl (Nat.le_of_ble_eq_true rfl) ⟨⟨Nat.le_of_ble_eq_true rfl, Nat.le_of_ble_eq_true rfl⟩, Nat.le_of_ble_eq_true rfl, Nat.le_of_ble_eq_true rfl⟩ ?_
            refine G_name (fun S4_55 hS4_55 => ?_)
            have hVS4_55 : zWM Q S4_55 := by rw [hS4_55]; exact hVS1_2.s40_0 (by first | assumption | exact ⟨by omega, by omega⟩)
            exact G_iret_m (pc := 58) hF dX7_send_58 ⟨Nat.le_of_ble_eq_true rfl, Nat.le_of_ble_eq_true rfl⟩ (by first | rfl | omega | simp_all) (by rw [hS4_55, hS1_2, zst_zst])
    · exfalso
      omega
set_option maxHeartbeats 4000000 in
set_option maxRecDepth 100000 in
theorem c_X7_send_z {l : Launch} {Δ : zDl} {ad : zK → Nat} {P : zP} {S : zS} {X : zMem} {Q : zP} {t x u k v : Int} (hV : zWM Q S) (ht : 0 ≤ t ∧ t < Q 0 0 0) (hx : 0 ≤ x ∧ x < 4) (hru : zR u) (hrk : zR k) (hrv : zR v) (ha : 0 ≤ u ∧ (-1 ≤ k ∧ k ≤ 9) ∧ (0 ≤ v ∧ v ≤ 999)) (hn : S (49, 0, 0, 0) (t * 4 + x) < u ∨ S (49, 0, 0, 0) (t * 4 + x) = u ∧ S (40, 0, 0, 0) 11 = 80) : zMn l Δ yX7_send cX7_send 9 (some .int) 9 0 0 [.ref (ad (40, 0, 0, 0)), .int (zI t), .int (zI x), .int (zI u), .int (zI k), .int (zI v)] ad (mm Δ ad P S X) (zD (some (.int (zI 0))) ad (mm Δ ad P (zst S (40, 0, 0, 0) 0 3) X)) := by
  refine zMn_of (by decide) (Nat.le_of_ble_eq_true rfl) (fun Γ hl hΔ hF => ?_)
  subst hl hΔ
  show G Γ _ _ _ RX7 _ _ _ _ _ [(0, .ref (ad (40, 0, 0, 0))), (1, .int (zI t)), (2, .int (zI x)), (3, .int (zI u)), (4, .int (zI k)), (5, .int (zI v))] []
  have hq := hV.q
  refine G_aload_n (pc := 0) 0 0 dX7_send_0 rfl rfl ?_
  refine G_iconst (pc := 1) dX7_send_1 ?_
  refine G_putf (pc := 2) fl_X7_93 fp_X7_0 dX7_send_2 mg_40 (Nat.le_of_ble_eq_true rfl) rfl rfl (mp_40_0 _) ?_
  refine G_name (fun S1_2 hS1_2 => ?_)
  have hVS1_2 : zWM Q S1_2 := by rw [hS1_2]; exact hV.s40_0 (by first | assumption | exact ⟨by omega, by omega⟩)
  have h44 := hVS1_2.t4
  have h49 : S1_2 (49, 0, 0, 0) (t * 4 + x) = S (49, 0, 0, 0) (t * 4 + x) := by rw [hS1_2, zst_k _ _ _ _ (by simp)]
  have h11 : S1_2 (40, 0, 0, 0) 11 = S (40, 0, 0, 0) 11 := by rw [hS1_2, zst_f _ _ _ (by decide)]
  refine G_aload_n (pc := 5) 0 0 dX7_send_5 rfl rfl ?_
  refine G_iload_n (pc := 6) 1 1 dX7_send_6 rfl rfl ?_
  refine G_callVd (pc := 7) gk_X7_103 dX7_send_7 mg_40 rfl (c_X7_isTopic (Q := Q) (by first | assumption | omega | exact ⟨by omega, by omega⟩ | exact hS _ _ | exact hT _ _) (by first | assumption | omega | exact ⟨by omega, by omega⟩ | exact hS _ _ | exact hT _ _)) rfl rfl (Nat.le_of_ble_eq_true rfl) ⟨⟨Nat.le_of_ble_eq_true rfl, Nat.le_of_ble_eq_true rfl⟩, Nat.le_of_ble_eq_true rfl, Nat.le_of_ble_eq_true rfl⟩ ?_
  refine G_if_eq_b (pc := 10) 20 dX7_send_10 (by decide) (fun c10 => ?_) (fun c10 => ?_)
  · exfalso
    omega
  · refine G_iload_n (pc := 13) 2 2 dX7_send_13 rfl rfl ?_
    refine G_callSd (pc := 14) gk_X7_137 dX7_send_14 (c_X7_isProducer (by first | assumption | omega | exact ⟨by omega, by omega⟩ | exact hS _ _ | exact hT _ _)) rfl rfl (Nat.le_of_ble_eq_true rfl) ⟨⟨Nat.le_of_ble_eq_true rfl, Nat.le_of_ble_eq_true rfl⟩, Nat.le_of_ble_eq_true rfl, Nat.le_of_ble_eq_true rfl⟩ ?_
    refine G_if_ne_b (pc := 17) 26 dX7_send_17 (by decide) (fun c17 => ?_) (fun c17 => ?_)
    · refine G_iload_n (pc := 26) 3 3 dX7_send_26 rfl rfl ?_
      refine G_if_lt (pc := 27) 53 dX7_send_27 (by decide) (by first | exact hS _ _ | exact hT _ _ | exact ⟨by omega, by omega⟩ | assumption | exact zWM.r (by assumption) _ _ (by decide)) (fun c27 => ?_) (fun c27 => ?_)
      · exfalso
        omega
      · refine G_iload (pc := 30) 4 dX7_send_30 rfl ?_
        refine G_iconst (pc := 32) dX7_send_32 ?_
        refine G_bipush (pc := 33) dX7_send_33 (by decide) ?_
        refine G_callSd (pc := 35) gk_X7_99 dX7_send_35 (c_X7_isWithin (by first | assumption | omega | exact ⟨by omega, by omega⟩ | exact hS _ _ | exact hT _ _) (by first | assumption | omega | exact ⟨by omega, by omega⟩ | exact hS _ _ | exact hT _ _) (by first | assumption | omega | exact ⟨by omega, by omega⟩ | exact hS _ _ | exact hT _ _)) rfl rfl (Nat.le_of_ble_eq_true rfl) ⟨⟨Nat.le_of_ble_eq_true rfl, Nat.le_of_ble_eq_true rfl⟩, Nat.le_of_ble_eq_true rfl, Nat.le_of_ble_eq_true rfl⟩ ?_
        refine G_if_eq_b (pc := 38) 53 dX7_send_38 (by decide) (fun c38 => ?_) (fun c38 => ?_)
        · exfalso
          omega
        · refine G_iload (pc := 41) 5 dX7_send_41 rfl ?_
          refine G_iconst (pc := 43) dX7_send_43 ?_
          refine G_sipush (pc := 44) dX7_send_44 (by decide) ?_
          refine G_callSd (pc := 47) gk_X7_99 dX7_send_47 (c_X7_isWithin (by first | assumption | omega | exact ⟨by omega, by omega⟩ | exact hS _ _ | exact hT _ _) (by first | assumption | omega | exact ⟨by omega, by omega⟩ | exact hS _ _ | exact hT _ _) (by first | assumption | omega | exact ⟨by omega, by omega⟩ | exact hS _ _ | exact hT _ _)) rfl rfl (Nat.le_of_ble_eq_true rfl) ⟨⟨Nat.le_of_ble_eq_true rfl, Nat.le_of_ble_eq_true rfl⟩, Nat.le_of_ble_eq_true rfl, Nat.le_of_ble_eq_true rfl⟩ ?_
          refine G_if_ne_b (pc := 50) 59 dX7_send_50 (by decide) (fun c50 => ?_) (fun c50 => ?_)
          · refine G_aload_n (pc := 59) 0 0 dX7_send_59 rfl rfl ?_
            refine G_getf (pc := 60) fl_X7_29 dX7_send_60 mg_40 rfl ?_
            refine G_iload_n (pc := 63) 1 1 dX7_send_63 rfl rfl ?_
            refine G_iconst (pc := 64) dX7_send_64 ?_
            refine G_imul (pc := 65) dX7_send_65 ?_
            refine G_iload_n (pc := 66) 2 2 dX7_send_66 rfl rfl ?_
            refine G_iadd (pc := 67) dX7_send_67 ?_
            refine G_iald (pc := 68) dX7_send_68 mg_49 ⟨by omega, by omega, by omega, by omega⟩ ?_
            refine G_istore_e (pc := 69) (fun zw => [(6, .int (zI zw)), (0, .ref (ad (40, 0, 0, 0))), (1, .int (zI t)), (2, .int (zI x)), (3, .int (zI u)), (4, .int (zI k)), (5, .int (zI v))]) dX7_send_69 (by decide) (fun _ => rfl) (fun v69 e69 => ?_)
            have h69 : zR v69 := by rw [e69]; exact zWM.r hVS1_2 _ _ (by decide)
            refine G_iload_n (pc := 71) 3 4 dX7_send_71 rfl rfl ?_
            refine G_iload (pc := 72) 0 dX7_send_72 rfl ?_
            refine G_icmp_ge (pc := 74) 80 dX7_send_74 (by decide) (by first | exact hS _ _ | exact hT _ _ | exact ⟨by omega, by omega⟩ | assumption | exact zWM.r (by assumption) _ _ (by decide)) (by first | exact hS _ _ | exact hT _ _ | exact ⟨by omega, by omega⟩ | assumption | exact zWM.r (by assumption) _ _ (by decide)) (fun c74 => ?_) (fun c74 => ?_)
            · refine G_iload_n (pc := 80) 3 4 dX7_send_80 rfl rfl ?_
              refine G_iload (pc := 81) 0 dX7_send_81 rfl ?_
              refine G_icmp_gt (pc := 83) 95 dX7_send_83 (by decide) (by first | exact hS _ _ | exact hT _ _ | exact ⟨by omega, by omega⟩ | assumption | exact zWM.r (by assumption) _ _ (by decide)) (by first | exact hS _ _ | exact hT _ _ | exact ⟨by omega, by omega⟩ | assumption | exact zWM.r (by assumption) _ _ (by decide)) (fun c83 => ?_) (fun c83 => ?_)
              · refine G_aload_n (pc := 95) 0 1 dX7_send_95 rfl rfl ?_
                refine G_iconst (pc := 96) dX7_send_96 ?_
                refine G_callVd (pc := 97) gk_X7_134 dX7_send_97 mg_40 rfl (c_X7_no (Q := Q) (by first | assumption | omega | exact ⟨by omega, by omega⟩ | exact hS _ _ | exact hT _ _) (by first | assumption | omega | exact ⟨by omega, by omega⟩ | exact hS _ _ | exact hT _ _)) rfl rfl (Nat.le_of_ble_eq_true rfl) ⟨⟨Nat.le_of_ble_eq_true rfl, Nat.le_of_ble_eq_true rfl⟩, Nat.le_of_ble_eq_true rfl, Nat.le_of_ble_eq_true rfl⟩ ?_
                refine G_name (fun S2_97 hS2_97 => ?_)
                have hVS2_97 : zWM Q S2_97 := by rw [hS2_97]; exact hVS1_2.s40_0 (by first | assumption | exact ⟨by omega, by omega⟩)
                exact G_iret_m (pc := 100) hF dX7_send_100 ⟨Nat.le_of_ble_eq_true rfl, Nat.le_of_ble_eq_true rfl⟩ (by first | rfl | omega | simp_all) (by rw [hS2_97, hS1_2, zst_zst])
              · refine G_aload_n (pc := 86) 0 1 dX7_send_86 rfl rfl ?_
                refine G_getf (pc := 87) fl_X7_140 dX7_send_87 mg_40 rfl ?_
                have hb87 := hVS1_2.f11
                refine G_bipush (pc := 90) dX7_send_90 (by decide) ?_
                refine G_icmp_ne (pc := 92) 101 dX7_send_92 (by decide) (by first | exact hS _ _ | exact hT _ _ | exact ⟨by omega, by omega⟩ | assumption | exact zWM.r (by assumption) _ _ (by decide)) (by first | exact hS _ _ | exact hT _ _ | exact ⟨by omega, by omega⟩ | assumption | exact zWM.r (by assumption) _ _ (by decide)) (fun c92 => ?_) (fun c92 => ?_)
                · exfalso
                  omega
                · refine G_aload_n (pc := 95) 0 1 dX7_send_95 rfl rfl ?_
                  refine G_iconst (pc := 96) dX7_send_96 ?_
                  refine G_callVd (pc := 97) gk_X7_134 dX7_send_97 mg_40 rfl (c_X7_no (Q := Q) (by first | assumption | omega | exact ⟨by omega, by omega⟩ | exact hS _ _ | exact hT _ _) (by first | assumption | omega | exact ⟨by omega, by omega⟩ | exact hS _ _ | exact hT _ _)) rfl rfl (Nat.le_of_ble_eq_true rfl) ⟨⟨Nat.le_of_ble_eq_true rfl, Nat.le_of_ble_eq_true rfl⟩, Nat.le_of_ble_eq_true rfl, Nat.le_of_ble_eq_true rfl⟩ ?_
                  refine G_name (fun S3_97 hS3_97 => ?_)
                  have hVS3_97 : zWM Q S3_97 := by rw [hS3_97]; exact hVS1_2.s40_0 (by first | assumption | exact ⟨by omega, by omega⟩)
                  exact G_iret_m (pc := 100) hF dX7_send_100 ⟨Nat.le_of_ble_eq_true rfl, Nat.le_of_ble_eq_true rfl⟩ (by first | rfl | omega | simp_all) (by rw [hS3_97, hS1_2, zst_zst])
            · exfalso
              omega
          · exfalso
            omega
    · exfalso
      omega
set_option maxHeartbeats 4000000 in
set_option maxRecDepth 100000 in
theorem c_X7_send_d {l : Launch} {Δ : zDl} {ad : zK → Nat} {P : zP} {S : zS} {X : zMem} {Q : zP} {t x u k v : Int} (hV : zWM Q S) (ht : 0 ≤ t ∧ t < Q 0 0 0) (hx : 0 ≤ x ∧ x < 4) (hru : zR u) (hrk : zR k) (hrv : zR v) (ha : 0 ≤ u ∧ (-1 ≤ k ∧ k ≤ 9) ∧ (0 ≤ v ∧ v ≤ 999)) (hn : u < S (49, 0, 0, 0) (t * 4 + x)) : zMn l Δ yX7_send cX7_send 9 (some .int) 9 0 0 [.ref (ad (40, 0, 0, 0)), .int (zI t), .int (zI x), .int (zI u), .int (zI k), .int (zI v)] ad (mm Δ ad P S X) (zD (some (.int (zI (-2)))) ad (mm Δ ad P (zst S (40, 0, 0, 0) 0 0) X)) := by
  refine zMn_of (by decide) (Nat.le_of_ble_eq_true rfl) (fun Γ hl hΔ hF => ?_)
  subst hl hΔ
  show G Γ _ _ _ RX7 _ _ _ _ _ [(0, .ref (ad (40, 0, 0, 0))), (1, .int (zI t)), (2, .int (zI x)), (3, .int (zI u)), (4, .int (zI k)), (5, .int (zI v))] []
  have hq := hV.q
  refine G_aload_n (pc := 0) 0 0 dX7_send_0 rfl rfl ?_
  refine G_iconst (pc := 1) dX7_send_1 ?_
  refine G_putf (pc := 2) fl_X7_93 fp_X7_0 dX7_send_2 mg_40 (Nat.le_of_ble_eq_true rfl) rfl rfl (mp_40_0 _) ?_
  refine G_name (fun S1_2 hS1_2 => ?_)
  have hVS1_2 : zWM Q S1_2 := by rw [hS1_2]; exact hV.s40_0 (by first | assumption | exact ⟨by omega, by omega⟩)
  have h44 := hVS1_2.t4
  have h49 : S1_2 (49, 0, 0, 0) (t * 4 + x) = S (49, 0, 0, 0) (t * 4 + x) := by rw [hS1_2, zst_k _ _ _ _ (by simp)]
  have h11 : S1_2 (40, 0, 0, 0) 11 = S (40, 0, 0, 0) 11 := by rw [hS1_2, zst_f _ _ _ (by decide)]
  refine G_aload_n (pc := 5) 0 0 dX7_send_5 rfl rfl ?_
  refine G_iload_n (pc := 6) 1 1 dX7_send_6 rfl rfl ?_
  refine G_callVd (pc := 7) gk_X7_103 dX7_send_7 mg_40 rfl (c_X7_isTopic (Q := Q) (by first | assumption | omega | exact ⟨by omega, by omega⟩ | exact hS _ _ | exact hT _ _) (by first | assumption | omega | exact ⟨by omega, by omega⟩ | exact hS _ _ | exact hT _ _)) rfl rfl (Nat.le_of_ble_eq_true rfl) ⟨⟨Nat.le_of_ble_eq_true rfl, Nat.le_of_ble_eq_true rfl⟩, Nat.le_of_ble_eq_true rfl, Nat.le_of_ble_eq_true rfl⟩ ?_
  refine G_if_eq_b (pc := 10) 20 dX7_send_10 (by decide) (fun c10 => ?_) (fun c10 => ?_)
  · exfalso
    omega
  · refine G_iload_n (pc := 13) 2 2 dX7_send_13 rfl rfl ?_
    refine G_callSd (pc := 14) gk_X7_137 dX7_send_14 (c_X7_isProducer (by first | assumption | omega | exact ⟨by omega, by omega⟩ | exact hS _ _ | exact hT _ _)) rfl rfl (Nat.le_of_ble_eq_true rfl) ⟨⟨Nat.le_of_ble_eq_true rfl, Nat.le_of_ble_eq_true rfl⟩, Nat.le_of_ble_eq_true rfl, Nat.le_of_ble_eq_true rfl⟩ ?_
    refine G_if_ne_b (pc := 17) 26 dX7_send_17 (by decide) (fun c17 => ?_) (fun c17 => ?_)
    · refine G_iload_n (pc := 26) 3 3 dX7_send_26 rfl rfl ?_
      refine G_if_lt (pc := 27) 53 dX7_send_27 (by decide) (by first | exact hS _ _ | exact hT _ _ | exact ⟨by omega, by omega⟩ | assumption | exact zWM.r (by assumption) _ _ (by decide)) (fun c27 => ?_) (fun c27 => ?_)
      · exfalso
        omega
      · refine G_iload (pc := 30) 4 dX7_send_30 rfl ?_
        refine G_iconst (pc := 32) dX7_send_32 ?_
        refine G_bipush (pc := 33) dX7_send_33 (by decide) ?_
        refine G_callSd (pc := 35) gk_X7_99 dX7_send_35 (c_X7_isWithin (by first | assumption | omega | exact ⟨by omega, by omega⟩ | exact hS _ _ | exact hT _ _) (by first | assumption | omega | exact ⟨by omega, by omega⟩ | exact hS _ _ | exact hT _ _) (by first | assumption | omega | exact ⟨by omega, by omega⟩ | exact hS _ _ | exact hT _ _)) rfl rfl (Nat.le_of_ble_eq_true rfl) ⟨⟨Nat.le_of_ble_eq_true rfl, Nat.le_of_ble_eq_true rfl⟩, Nat.le_of_ble_eq_true rfl, Nat.le_of_ble_eq_true rfl⟩ ?_
        refine G_if_eq_b (pc := 38) 53 dX7_send_38 (by decide) (fun c38 => ?_) (fun c38 => ?_)
        · exfalso
          omega
        · refine G_iload (pc := 41) 5 dX7_send_41 rfl ?_
          refine G_iconst (pc := 43) dX7_send_43 ?_
          refine G_sipush (pc := 44) dX7_send_44 (by decide) ?_
          refine G_callSd (pc := 47) gk_X7_99 dX7_send_47 (c_X7_isWithin (by first | assumption | omega | exact ⟨by omega, by omega⟩ | exact hS _ _ | exact hT _ _) (by first | assumption | omega | exact ⟨by omega, by omega⟩ | exact hS _ _ | exact hT _ _) (by first | assumption | omega | exact ⟨by omega, by omega⟩ | exact hS _ _ | exact hT _ _)) rfl rfl (Nat.le_of_ble_eq_true rfl) ⟨⟨Nat.le_of_ble_eq_true rfl, Nat.le_of_ble_eq_true rfl⟩, Nat.le_of_ble_eq_true rfl, Nat.le_of_ble_eq_true rfl⟩ ?_
          refine G_if_ne_b (pc := 50) 59 dX7_send_50 (by decide) (fun c50 => ?_) (fun c50 => ?_)
          · refine G_aload_n (pc := 59) 0 0 dX7_send_59 rfl rfl ?_
            refine G_getf (pc := 60) fl_X7_29 dX7_send_60 mg_40 rfl ?_
            refine G_iload_n (pc := 63) 1 1 dX7_send_63 rfl rfl ?_
            refine G_iconst (pc := 64) dX7_send_64 ?_
            refine G_imul (pc := 65) dX7_send_65 ?_
            refine G_iload_n (pc := 66) 2 2 dX7_send_66 rfl rfl ?_
            refine G_iadd (pc := 67) dX7_send_67 ?_
            refine G_iald (pc := 68) dX7_send_68 mg_49 ⟨by omega, by omega, by omega, by omega⟩ ?_
            refine G_istore_e (pc := 69) (fun zw => [(6, .int (zI zw)), (0, .ref (ad (40, 0, 0, 0))), (1, .int (zI t)), (2, .int (zI x)), (3, .int (zI u)), (4, .int (zI k)), (5, .int (zI v))]) dX7_send_69 (by decide) (fun _ => rfl) (fun v69 e69 => ?_)
            have h69 : zR v69 := by rw [e69]; exact zWM.r hVS1_2 _ _ (by decide)
            refine G_iload_n (pc := 71) 3 4 dX7_send_71 rfl rfl ?_
            refine G_iload (pc := 72) 0 dX7_send_72 rfl ?_
            refine G_icmp_ge (pc := 74) 80 dX7_send_74 (by decide) (by first | exact hS _ _ | exact hT _ _ | exact ⟨by omega, by omega⟩ | assumption | exact zWM.r (by assumption) _ _ (by decide)) (by first | exact hS _ _ | exact hT _ _ | exact ⟨by omega, by omega⟩ | assumption | exact zWM.r (by assumption) _ _ (by decide)) (fun c74 => ?_) (fun c74 => ?_)
            · exfalso
              omega
            · refine G_bipush (pc := 77) dX7_send_77 (by decide) ?_
              exact G_iret_m (pc := 79) hF dX7_send_79 ⟨Nat.le_of_ble_eq_true rfl, Nat.le_of_ble_eq_true rfl⟩ (by first | rfl | omega | simp_all) (by rw [hS1_2])
          · exfalso
            omega
    · exfalso
      omega
set_option maxHeartbeats 4000000 in
set_option maxRecDepth 100000 in
theorem c_X7_send_o {l : Launch} {Δ : zDl} {ad : zK → Nat} {P : zP} {S : zS} {X : zMem} {Q Q2 : zP} {t x u k v : Int} (hV : zWM Q S) (ht : 0 ≤ t ∧ t < Q 0 0 0) (hx : 0 ≤ x ∧ x < 4) (hru : zR u) (hrk : zR k) (hrv : zR v) (h61 : Q 61 0 0 = P 61 0 0) (ha : 0 ≤ u ∧ (-1 ≤ k ∧ k ≤ 9) ∧ (0 ≤ v ∧ v ≤ 999)) (hn : S (49, 0, 0, 0) (t * 4 + x) = u) (h80 : S (40, 0, 0, 0) 11 < 80) (hg : zgr Q Q2 t (zpa Q t k)) (hn80 : S (49, 0, 0, 0) (t * 4 + x) ≤ 80) (hq80 : Q 2 t (zpa Q t k) < 80) : zMn l Δ yX7_send cX7_send 9 (some .int) 9 0 0 [.ref (ad (40, 0, 0, 0)), .int (zI t), .int (zI x), .int (zI u), .int (zI k), .int (zI v)] ad (mm Δ ad P S X) (zD (some (.int (zI (Q 2 t (zpa Q t k))))) ad (mm Δ ad P (msa Q2 (mssd (zst S (40, 0, 0, 0) 0 0) t (zpa Q t k) (Q 2 t (zpa Q t k)) x k v u)) X)) := by
  refine zMn_of (by decide) (Nat.le_of_ble_eq_true rfl) (fun Γ hl hΔ hF => ?_)
  subst hl hΔ
  show G Γ _ _ _ RX7 _ _ _ _ _ [(0, .ref (ad (40, 0, 0, 0))), (1, .int (zI t)), (2, .int (zI x)), (3, .int (zI u)), (4, .int (zI k)), (5, .int (zI v))] []
  have hq := hV.q
  have hqt := hV.qt ht
  have hpl := zpa_le (Q := Q) (k := k) hqt (by omega)
  have h612 : Q2 61 0 0 = P 61 0 0 := (hg.1 61 0 0 (by decide) (by decide) (by decide) (by decide)).trans h61
  refine G_aload_n (pc := 0) 0 0 dX7_send_0 rfl rfl ?_
  refine G_iconst (pc := 1) dX7_send_1 ?_
  refine G_putf (pc := 2) fl_X7_93 fp_X7_0 dX7_send_2 mg_40 (Nat.le_of_ble_eq_true rfl) rfl rfl (mp_40_0 _) ?_
  refine G_name (fun S1_2 hS1_2 => ?_)
  have hVS1_2 : zWM Q S1_2 := by rw [hS1_2]; exact hV.s40_0 (by first | assumption | exact ⟨by omega, by omega⟩)
  have h44 := hVS1_2.t4
  have h49 : S1_2 (49, 0, 0, 0) (t * 4 + x) = S (49, 0, 0, 0) (t * 4 + x) := by rw [hS1_2, zst_k _ _ _ _ (by simp)]
  have h11 : S1_2 (40, 0, 0, 0) 11 = S (40, 0, 0, 0) 11 := by rw [hS1_2, zst_f _ _ _ (by decide)]
  have hmS1_2 : S1_2 (40, 0, 0, 0) 11 = S1_2 (40, 0, 0, 0) 11 := rfl
  have heS1_2 : S1_2 (48, 0, 0, 0) (t * 4 + zpa Q t k) = Q 2 t (zpa Q t k) := hVS1_2.en ht hpl
  have hcS1_2 : S1_2 (40, 0, 0, 0) 1 = S1_2 (40, 0, 0, 0) 1 := rfl
  have huS1_2 : S1_2 (62, 0, 0, 0) x = S1_2 (62, 0, 0, 0) x := rfl
  refine G_aload_n (pc := 5) 0 0 dX7_send_5 rfl rfl ?_
  refine G_iload_n (pc := 6) 1 1 dX7_send_6 rfl rfl ?_
  refine G_callVd (pc := 7) gk_X7_103 dX7_send_7 mg_40 rfl (c_X7_isTopic (Q := Q) (by first | assumption | omega | exact ⟨by omega, by omega⟩ | exact hS _ _ | exact hT _ _) (by first | assumption | omega | exact ⟨by omega, by omega⟩ | exact hS _ _ | exact hT _ _)) rfl rfl (Nat.le_of_ble_eq_true rfl) ⟨⟨Nat.le_of_ble_eq_true rfl, Nat.le_of_ble_eq_true rfl⟩, Nat.le_of_ble_eq_true rfl, Nat.le_of_ble_eq_true rfl⟩ ?_
  refine G_if_eq_b (pc := 10) 20 dX7_send_10 (by decide) (fun c10 => ?_) (fun c10 => ?_)
  · exfalso
    omega
  · refine G_iload_n (pc := 13) 2 2 dX7_send_13 rfl rfl ?_
    refine G_callSd (pc := 14) gk_X7_137 dX7_send_14 (c_X7_isProducer (by first | assumption | omega | exact ⟨by omega, by omega⟩ | exact hS _ _ | exact hT _ _)) rfl rfl (Nat.le_of_ble_eq_true rfl) ⟨⟨Nat.le_of_ble_eq_true rfl, Nat.le_of_ble_eq_true rfl⟩, Nat.le_of_ble_eq_true rfl, Nat.le_of_ble_eq_true rfl⟩ ?_
    refine G_if_ne_b (pc := 17) 26 dX7_send_17 (by decide) (fun c17 => ?_) (fun c17 => ?_)
    · refine G_iload_n (pc := 26) 3 3 dX7_send_26 rfl rfl ?_
      refine G_if_lt (pc := 27) 53 dX7_send_27 (by decide) (by first | exact hS _ _ | exact hT _ _ | exact ⟨by omega, by omega⟩ | assumption | exact zWM.r (by assumption) _ _ (by decide)) (fun c27 => ?_) (fun c27 => ?_)
      · exfalso
        omega
      · refine G_iload (pc := 30) 4 dX7_send_30 rfl ?_
        refine G_iconst (pc := 32) dX7_send_32 ?_
        refine G_bipush (pc := 33) dX7_send_33 (by decide) ?_
        refine G_callSd (pc := 35) gk_X7_99 dX7_send_35 (c_X7_isWithin (by first | assumption | omega | exact ⟨by omega, by omega⟩ | exact hS _ _ | exact hT _ _) (by first | assumption | omega | exact ⟨by omega, by omega⟩ | exact hS _ _ | exact hT _ _) (by first | assumption | omega | exact ⟨by omega, by omega⟩ | exact hS _ _ | exact hT _ _)) rfl rfl (Nat.le_of_ble_eq_true rfl) ⟨⟨Nat.le_of_ble_eq_true rfl, Nat.le_of_ble_eq_true rfl⟩, Nat.le_of_ble_eq_true rfl, Nat.le_of_ble_eq_true rfl⟩ ?_
        refine G_if_eq_b (pc := 38) 53 dX7_send_38 (by decide) (fun c38 => ?_) (fun c38 => ?_)
        · exfalso
          omega
        · refine G_iload (pc := 41) 5 dX7_send_41 rfl ?_
          refine G_iconst (pc := 43) dX7_send_43 ?_
          refine G_sipush (pc := 44) dX7_send_44 (by decide) ?_
          refine G_callSd (pc := 47) gk_X7_99 dX7_send_47 (c_X7_isWithin (by first | assumption | omega | exact ⟨by omega, by omega⟩ | exact hS _ _ | exact hT _ _) (by first | assumption | omega | exact ⟨by omega, by omega⟩ | exact hS _ _ | exact hT _ _) (by first | assumption | omega | exact ⟨by omega, by omega⟩ | exact hS _ _ | exact hT _ _)) rfl rfl (Nat.le_of_ble_eq_true rfl) ⟨⟨Nat.le_of_ble_eq_true rfl, Nat.le_of_ble_eq_true rfl⟩, Nat.le_of_ble_eq_true rfl, Nat.le_of_ble_eq_true rfl⟩ ?_
          refine G_if_ne_b (pc := 50) 59 dX7_send_50 (by decide) (fun c50 => ?_) (fun c50 => ?_)
          · refine G_aload_n (pc := 59) 0 0 dX7_send_59 rfl rfl ?_
            refine G_getf (pc := 60) fl_X7_29 dX7_send_60 mg_40 rfl ?_
            refine G_iload_n (pc := 63) 1 1 dX7_send_63 rfl rfl ?_
            refine G_iconst (pc := 64) dX7_send_64 ?_
            refine G_imul (pc := 65) dX7_send_65 ?_
            refine G_iload_n (pc := 66) 2 2 dX7_send_66 rfl rfl ?_
            refine G_iadd (pc := 67) dX7_send_67 ?_
            refine G_iald (pc := 68) dX7_send_68 mg_49 ⟨by omega, by omega, by omega, by omega⟩ ?_
            refine G_istore_e (pc := 69) (fun zw => [(6, .int (zI zw)), (0, .ref (ad (40, 0, 0, 0))), (1, .int (zI t)), (2, .int (zI x)), (3, .int (zI u)), (4, .int (zI k)), (5, .int (zI v))]) dX7_send_69 (by decide) (fun _ => rfl) (fun v69 e69 => ?_)
            have h69 : zR v69 := by rw [e69]; exact zWM.r hVS1_2 _ _ (by decide)
            refine G_iload_n (pc := 71) 3 4 dX7_send_71 rfl rfl ?_
            refine G_iload (pc := 72) 0 dX7_send_72 rfl ?_
            refine G_icmp_ge (pc := 74) 80 dX7_send_74 (by decide) (by first | exact hS _ _ | exact hT _ _ | exact ⟨by omega, by omega⟩ | assumption | exact zWM.r (by assumption) _ _ (by decide)) (by first | exact hS _ _ | exact hT _ _ | exact ⟨by omega, by omega⟩ | assumption | exact zWM.r (by assumption) _ _ (by decide)) (fun c74 => ?_) (fun c74 => ?_)
            · refine G_iload_n (pc := 80) 3 4 dX7_send_80 rfl rfl ?_
              refine G_iload (pc := 81) 0 dX7_send_81 rfl ?_
              refine G_icmp_gt (pc := 83) 95 dX7_send_83 (by decide) (by first | exact hS _ _ | exact hT _ _ | exact ⟨by omega, by omega⟩ | assumption | exact zWM.r (by assumption) _ _ (by decide)) (by first | exact hS _ _ | exact hT _ _ | exact ⟨by omega, by omega⟩ | assumption | exact zWM.r (by assumption) _ _ (by decide)) (fun c83 => ?_) (fun c83 => ?_)
              · exfalso
                omega
              · refine G_aload_n (pc := 86) 0 1 dX7_send_86 rfl rfl ?_
                refine G_getf (pc := 87) fl_X7_140 dX7_send_87 mg_40 rfl ?_
                have hb87 := hVS1_2.f11
                refine G_bipush (pc := 90) dX7_send_90 (by decide) ?_
                refine G_icmp_ne (pc := 92) 101 dX7_send_92 (by decide) (by first | exact hS _ _ | exact hT _ _ | exact ⟨by omega, by omega⟩ | assumption | exact zWM.r (by assumption) _ _ (by decide)) (by first | exact hS _ _ | exact hT _ _ | exact ⟨by omega, by omega⟩ | assumption | exact zWM.r (by assumption) _ _ (by decide)) (fun c92 => ?_) (fun c92 => ?_)
                · refine G_aload_n (pc := 101) 0 1 dX7_send_101 rfl rfl ?_
                  refine G_getf (pc := 102) fl_X7_29 dX7_send_102 mg_40 rfl ?_
                  refine G_iload_n (pc := 105) 1 2 dX7_send_105 rfl rfl ?_
                  refine G_iconst (pc := 106) dX7_send_106 ?_
                  refine G_imul (pc := 107) dX7_send_107 ?_
                  refine G_iload_n (pc := 108) 2 3 dX7_send_108 rfl rfl ?_
                  refine G_iadd (pc := 109) dX7_send_109 ?_
                  refine G_dup2 (pc := 110) dX7_send_110 rfl rfl ?_
                  refine G_iald (pc := 111) dX7_send_111 mg_49 ⟨by omega, by omega, by omega, by omega⟩ ?_
                  refine G_iconst (pc := 112) dX7_send_112 ?_
                  refine G_iadd (pc := 113) dX7_send_113 ?_
                  refine G_iast (pc := 114) dX7_send_114 mg_49 ⟨by omega, by omega, by omega, by omega⟩ (mp_49 _ _) ?_
                  refine G_name (fun S2_114 hS2_114 => ?_)
                  have hVS2_114 : zWM Q S2_114 := by rw [hS2_114]; exact hVS1_2.s49 (by first | assumption | exact zWM.r (by assumption) _ _ (by decide) | exact ⟨by omega, by omega⟩)
                  have hxS2_114 : S2_114 = zst S1_2 (49, 0, 0, 0) (t * 4 + x) (u + 1) := by rw [hS2_114, h49, hn]
                  have hmS2_114 : S2_114 (40, 0, 0, 0) 11 = S1_2 (40, 0, 0, 0) 11 := by first | (rw [hS2_114, zst_f _ _ _ (by decide)]; exact hmS1_2) | (rw [hS2_114, zst_k _ _ _ _ (by simp)]; done) | (rw [hS2_114, zst_k _ _ _ _ (by simp)]; exact hmS1_2)
                  have heS2_114 : S2_114 (48, 0, 0, 0) (t * 4 + zpa Q t k) = Q 2 t (zpa Q t k) := by first | (rw [hS2_114, zst_f _ _ _ (by decide)]; exact heS1_2) | (rw [hS2_114, zst_k _ _ _ _ (by simp)]; done) | (rw [hS2_114, zst_k _ _ _ _ (by simp)]; exact heS1_2)
                  have hcS2_114 : S2_114 (40, 0, 0, 0) 1 = S1_2 (40, 0, 0, 0) 1 := by first | (rw [hS2_114, zst_f _ _ _ (by decide)]; exact hcS1_2) | (rw [hS2_114, zst_k _ _ _ _ (by simp)]; done) | (rw [hS2_114, zst_k _ _ _ _ (by simp)]; exact hcS1_2)
                  have huS2_114 : S2_114 (62, 0, 0, 0) x = S1_2 (62, 0, 0, 0) x := by first | (rw [hS2_114, zst_f _ _ _ (by decide)]; exact huS1_2) | (rw [hS2_114, zst_k _ _ _ _ (by simp)]; done) | (rw [hS2_114, zst_k _ _ _ _ (by simp)]; exact huS1_2)
                  refine G_iconst (pc := 115) dX7_send_115 ?_
                  refine G_istore_e (pc := 116) (fun zw => [(7, .int (zI zw)), (6, .int (zI v69)), (0, .ref (ad (40, 0, 0, 0))), (1, .int (zI t)), (2, .int (zI x)), (3, .int (zI u)), (4, .int (zI k)), (5, .int (zI v))]) dX7_send_116 (by decide) (fun _ => rfl) (fun v116 e116 => ?_)
                  have hpn2 := hVS2_114.pn ht
                  refine G_iload (pc := 118) 6 dX7_send_118 rfl ?_
                  refine G_iconst (pc := 120) dX7_send_120 ?_
                  refine G_icmp_ne (pc := 121) 176 dX7_send_121 (by decide) (by first | exact hS _ _ | exact hT _ _ | exact ⟨by omega, by omega⟩ | assumption | exact zWM.r (by assumption) _ _ (by decide)) (by first | exact hS _ _ | exact hT _ _ | exact ⟨by omega, by omega⟩ | assumption | exact zWM.r (by assumption) _ _ (by decide)) (fun c121 => ?_) (fun c121 => ?_)
                  · refine G_iload (pc := 176) 6 dX7_send_176 rfl ?_
                    refine G_aload_n (pc := 178) 0 2 dX7_send_178 rfl rfl ?_
                    refine G_getf (pc := 179) fl_X7_16 dX7_send_179 mg_40 rfl ?_
                    refine G_iload_n (pc := 182) 1 3 dX7_send_182 rfl rfl ?_
                    refine G_iald (pc := 183) dX7_send_183 mg_45 ⟨by omega, by omega, by omega, by omega⟩ ?_
                    have hb183 := hVS2_114.b45 (t)
                    refine G_irem (pc := 184) dX7_send_184 ⟨by omega, by omega, by omega⟩ ⟨by omega, by omega, by omega⟩ ?_
                    refine G_istore_e (pc := 185) (fun zw => [(7, .int (zI zw)), (6, .int (zI v69)), (0, .ref (ad (40, 0, 0, 0))), (1, .int (zI t)), (2, .int (zI x)), (3, .int (zI u)), (4, .int (zI k)), (5, .int (zI v))]) dX7_send_185 (by decide) (fun _ => rfl) (fun v185 e185 => ?_)
                    have hp7 : v185 = zpa Q t k := by first | (rw [show zpa Q t k = lp (zpf Q t) 1 (Q 1 t 0) 0 from if_pos c121, ← hi127.2, lp_end (by omega)]; done) | (rw [e185, hpn2]; exact (if_neg c121).symm)
                    refine G_iload_n (pc := 187) 1 3 dX7_send_187 rfl rfl ?_
                    refine G_iconst (pc := 188) dX7_send_188 ?_
                    refine G_imul (pc := 189) dX7_send_189 ?_
                    refine G_iload (pc := 190) 0 dX7_send_190 rfl ?_
                    refine G_iadd (pc := 192) dX7_send_192 ?_
                    refine G_istore_e (pc := 193) (fun zw => [(8, .int (zI zw)), (7, .int (zI v185)), (6, .int (zI v69)), (0, .ref (ad (40, 0, 0, 0))), (1, .int (zI t)), (2, .int (zI x)), (3, .int (zI u)), (4, .int (zI k)), (5, .int (zI v))]) dX7_send_193 (by decide) (fun _ => rfl) (fun v193 e193 => ?_)
                    have hw : v193 = (t * 4 + zpa Q t k) := by rw [e193, hp7]
                    have hw16 : 0 ≤ v193 ∧ v193 < 16 := by omega
                    refine G_aload_n (pc := 195) 0 3 dX7_send_195 rfl rfl ?_
                    refine G_getf (pc := 196) fl_X7_36 dX7_send_196 mg_40 rfl ?_
                    refine G_aload_n (pc := 199) 0 3 dX7_send_199 rfl rfl ?_
                    refine G_getf (pc := 200) fl_X7_140 dX7_send_200 mg_40 rfl ?_
                    have hb200 := hVS2_114.f11
                    refine G_iload (pc := 203) 0 dX7_send_203 rfl ?_
                    refine G_iast (pc := 205) dX7_send_205 mg_52 ⟨by omega, by omega, by omega, by omega⟩ (mp_52 _ _) ?_
                    refine G_name (fun S3_205 hS3_205 => ?_)
                    have hVS3_205 : zWM Q S3_205 := by rw [hS3_205]; exact hVS2_114.s52 ⟨by omega, by omega⟩
                    have hxS3_205 : S3_205 = zst (zst S1_2 (49, 0, 0, 0) (t * 4 + x) (u + 1)) (52, 0, 0, 0) (S1_2 (40, 0, 0, 0) 11) (t * 4 + zpa Q t k) := by rw [hS3_205, hmS2_114, hw, hxS2_114]
                    have hmS3_205 : S3_205 (40, 0, 0, 0) 11 = S1_2 (40, 0, 0, 0) 11 := by first | (rw [hS3_205, zst_f _ _ _ (by decide)]; exact hmS2_114) | (rw [hS3_205, zst_k _ _ _ _ (by simp)]; done) | (rw [hS3_205, zst_k _ _ _ _ (by simp)]; exact hmS2_114)
                    have heS3_205 : S3_205 (48, 0, 0, 0) (t * 4 + zpa Q t k) = Q 2 t (zpa Q t k) := by first | (rw [hS3_205, zst_f _ _ _ (by decide)]; exact heS2_114) | (rw [hS3_205, zst_k _ _ _ _ (by simp)]; done) | (rw [hS3_205, zst_k _ _ _ _ (by simp)]; exact heS2_114)
                    have hcS3_205 : S3_205 (40, 0, 0, 0) 1 = S1_2 (40, 0, 0, 0) 1 := by first | (rw [hS3_205, zst_f _ _ _ (by decide)]; exact hcS2_114) | (rw [hS3_205, zst_k _ _ _ _ (by simp)]; done) | (rw [hS3_205, zst_k _ _ _ _ (by simp)]; exact hcS2_114)
                    have huS3_205 : S3_205 (62, 0, 0, 0) x = S1_2 (62, 0, 0, 0) x := by first | (rw [hS3_205, zst_f _ _ _ (by decide)]; exact huS2_114) | (rw [hS3_205, zst_k _ _ _ _ (by simp)]; done) | (rw [hS3_205, zst_k _ _ _ _ (by simp)]; exact huS2_114)
                    have hew1 := heS3_205
                    rw [← hw] at hew1
                    refine G_aload_n (pc := 206) 0 3 dX7_send_206 rfl rfl ?_
                    refine G_getf (pc := 207) fl_X7_39 dX7_send_207 mg_40 rfl ?_
                    refine G_aload_n (pc := 210) 0 3 dX7_send_210 rfl rfl ?_
                    refine G_getf (pc := 211) fl_X7_140 dX7_send_211 mg_40 rfl ?_
                    have hb211 := hVS3_205.f11
                    refine G_aload_n (pc := 214) 0 3 dX7_send_214 rfl rfl ?_
                    refine G_getf (pc := 215) fl_X7_26 dX7_send_215 mg_40 rfl ?_
                    refine G_iload (pc := 218) 0 dX7_send_218 rfl ?_
                    refine G_iald (pc := 220) dX7_send_220 mg_48 ⟨by omega, by omega, by omega, by omega⟩ ?_
                    have hb220 := hVS3_205.b48 (v193)
                    refine G_iast (pc := 221) dX7_send_221 mg_53 ⟨by omega, by omega, by omega, by omega⟩ (mp_53 _ _) ?_
                    refine G_name (fun S4_221 hS4_221 => ?_)
                    have hVS4_221 : zWM Q S4_221 := by rw [hS4_221]; exact hVS3_205.s53 ⟨by omega, by omega⟩
                    have hxS4_221 : S4_221 = zst (zst (zst S1_2 (49, 0, 0, 0) (t * 4 + x) (u + 1)) (52, 0, 0, 0) (S1_2 (40, 0, 0, 0) 11) (t * 4 + zpa Q t k)) (53, 0, 0, 0) (S1_2 (40, 0, 0, 0) 11) (Q 2 t (zpa Q t k)) := by rw [hS4_221, hmS3_205, hw, heS3_205, hxS3_205]
                    have hmS4_221 : S4_221 (40, 0, 0, 0) 11 = S1_2 (40, 0, 0, 0) 11 := by first | (rw [hS4_221, zst_f _ _ _ (by decide)]; exact hmS3_205) | (rw [hS4_221, zst_k _ _ _ _ (by simp)]; done) | (rw [hS4_221, zst_k _ _ _ _ (by simp)]; exact hmS3_205)
                    have heS4_221 : S4_221 (48, 0, 0, 0) (t * 4 + zpa Q t k) = Q 2 t (zpa Q t k) := by first | (rw [hS4_221, zst_f _ _ _ (by decide)]; exact heS3_205) | (rw [hS4_221, zst_k _ _ _ _ (by simp)]; done) | (rw [hS4_221, zst_k _ _ _ _ (by simp)]; exact heS3_205)
                    have hcS4_221 : S4_221 (40, 0, 0, 0) 1 = S1_2 (40, 0, 0, 0) 1 := by first | (rw [hS4_221, zst_f _ _ _ (by decide)]; exact hcS3_205) | (rw [hS4_221, zst_k _ _ _ _ (by simp)]; done) | (rw [hS4_221, zst_k _ _ _ _ (by simp)]; exact hcS3_205)
                    have huS4_221 : S4_221 (62, 0, 0, 0) x = S1_2 (62, 0, 0, 0) x := by first | (rw [hS4_221, zst_f _ _ _ (by decide)]; exact huS3_205) | (rw [hS4_221, zst_k _ _ _ _ (by simp)]; done) | (rw [hS4_221, zst_k _ _ _ _ (by simp)]; exact huS3_205)
                    refine G_aload_n (pc := 222) 0 3 dX7_send_222 rfl rfl ?_
                    refine G_getf (pc := 223) fl_X7_42 dX7_send_223 mg_40 rfl ?_
                    refine G_aload_n (pc := 226) 0 3 dX7_send_226 rfl rfl ?_
                    refine G_getf (pc := 227) fl_X7_140 dX7_send_227 mg_40 rfl ?_
                    have hb227 := hVS4_221.f11
                    refine G_iload (pc := 230) 7 dX7_send_230 rfl ?_
                    refine G_iast (pc := 232) dX7_send_232 mg_54 ⟨by omega, by omega, by omega, by omega⟩ (mp_54 _ _) ?_
                    refine G_name (fun S5_232 hS5_232 => ?_)
                    have hVS5_232 : zWM Q S5_232 := by rw [hS5_232]; exact hVS4_221.s54 ⟨by omega, by omega⟩
                    have hxS5_232 : S5_232 = zst (zst (zst (zst S1_2 (49, 0, 0, 0) (t * 4 + x) (u + 1)) (52, 0, 0, 0) (S1_2 (40, 0, 0, 0) 11) (t * 4 + zpa Q t k)) (53, 0, 0, 0) (S1_2 (40, 0, 0, 0) 11) (Q 2 t (zpa Q t k))) (54, 0, 0, 0) (S1_2 (40, 0, 0, 0) 11) k := by rw [hS5_232, hmS4_221, hxS4_221]
                    have hmS5_232 : S5_232 (40, 0, 0, 0) 11 = S1_2 (40, 0, 0, 0) 11 := by first | (rw [hS5_232, zst_f _ _ _ (by decide)]; exact hmS4_221) | (rw [hS5_232, zst_k _ _ _ _ (by simp)]; done) | (rw [hS5_232, zst_k _ _ _ _ (by simp)]; exact hmS4_221)
                    have heS5_232 : S5_232 (48, 0, 0, 0) (t * 4 + zpa Q t k) = Q 2 t (zpa Q t k) := by first | (rw [hS5_232, zst_f _ _ _ (by decide)]; exact heS4_221) | (rw [hS5_232, zst_k _ _ _ _ (by simp)]; done) | (rw [hS5_232, zst_k _ _ _ _ (by simp)]; exact heS4_221)
                    have hcS5_232 : S5_232 (40, 0, 0, 0) 1 = S1_2 (40, 0, 0, 0) 1 := by first | (rw [hS5_232, zst_f _ _ _ (by decide)]; exact hcS4_221) | (rw [hS5_232, zst_k _ _ _ _ (by simp)]; done) | (rw [hS5_232, zst_k _ _ _ _ (by simp)]; exact hcS4_221)
                    have huS5_232 : S5_232 (62, 0, 0, 0) x = S1_2 (62, 0, 0, 0) x := by first | (rw [hS5_232, zst_f _ _ _ (by decide)]; exact huS4_221) | (rw [hS5_232, zst_k _ _ _ _ (by simp)]; done) | (rw [hS5_232, zst_k _ _ _ _ (by simp)]; exact huS4_221)
                    refine G_aload_n (pc := 233) 0 3 dX7_send_233 rfl rfl ?_
                    refine G_getf (pc := 234) fl_X7_45 dX7_send_234 mg_40 rfl ?_
                    refine G_aload_n (pc := 237) 0 3 dX7_send_237 rfl rfl ?_
                    refine G_getf (pc := 238) fl_X7_140 dX7_send_238 mg_40 rfl ?_
                    have hb238 := hVS5_232.f11
                    refine G_iload (pc := 241) 8 dX7_send_241 rfl ?_
                    refine G_iast (pc := 243) dX7_send_243 mg_55 ⟨by omega, by omega, by omega, by omega⟩ (mp_55 _ _) ?_
                    refine G_name (fun S6_243 hS6_243 => ?_)
                    have hVS6_243 : zWM Q S6_243 := by rw [hS6_243]; exact hVS5_232.s55 ⟨by omega, by omega⟩
                    have hxS6_243 : S6_243 = zst (zst (zst (zst (zst S1_2 (49, 0, 0, 0) (t * 4 + x) (u + 1)) (52, 0, 0, 0) (S1_2 (40, 0, 0, 0) 11) (t * 4 + zpa Q t k)) (53, 0, 0, 0) (S1_2 (40, 0, 0, 0) 11) (Q 2 t (zpa Q t k))) (54, 0, 0, 0) (S1_2 (40, 0, 0, 0) 11) k) (55, 0, 0, 0) (S1_2 (40, 0, 0, 0) 11) v := by rw [hS6_243, hmS5_232, hxS5_232]
                    have hmS6_243 : S6_243 (40, 0, 0, 0) 11 = S1_2 (40, 0, 0, 0) 11 := by first | (rw [hS6_243, zst_f _ _ _ (by decide)]; exact hmS5_232) | (rw [hS6_243, zst_k _ _ _ _ (by simp)]; done) | (rw [hS6_243, zst_k _ _ _ _ (by simp)]; exact hmS5_232)
                    have heS6_243 : S6_243 (48, 0, 0, 0) (t * 4 + zpa Q t k) = Q 2 t (zpa Q t k) := by first | (rw [hS6_243, zst_f _ _ _ (by decide)]; exact heS5_232) | (rw [hS6_243, zst_k _ _ _ _ (by simp)]; done) | (rw [hS6_243, zst_k _ _ _ _ (by simp)]; exact heS5_232)
                    have hcS6_243 : S6_243 (40, 0, 0, 0) 1 = S1_2 (40, 0, 0, 0) 1 := by first | (rw [hS6_243, zst_f _ _ _ (by decide)]; exact hcS5_232) | (rw [hS6_243, zst_k _ _ _ _ (by simp)]; done) | (rw [hS6_243, zst_k _ _ _ _ (by simp)]; exact hcS5_232)
                    have huS6_243 : S6_243 (62, 0, 0, 0) x = S1_2 (62, 0, 0, 0) x := by first | (rw [hS6_243, zst_f _ _ _ (by decide)]; exact huS5_232) | (rw [hS6_243, zst_k _ _ _ _ (by simp)]; done) | (rw [hS6_243, zst_k _ _ _ _ (by simp)]; exact huS5_232)
                    refine G_aload_n (pc := 244) 0 3 dX7_send_244 rfl rfl ?_
                    refine G_getf (pc := 245) fl_X7_48 dX7_send_245 mg_40 rfl ?_
                    refine G_aload_n (pc := 248) 0 3 dX7_send_248 rfl rfl ?_
                    refine G_getf (pc := 249) fl_X7_140 dX7_send_249 mg_40 rfl ?_
                    have hb249 := hVS6_243.f11
                    refine G_aload_n (pc := 252) 0 3 dX7_send_252 rfl rfl ?_
                    refine G_getf (pc := 253) fl_X7_143 dX7_send_253 mg_40 rfl ?_
                    have hb253 := hVS6_243.f1
                    refine G_iast (pc := 256) dX7_send_256 mg_56 ⟨by omega, by omega, by omega, by omega⟩ (mp_56 _ _) ?_
                    refine G_name (fun S7_256 hS7_256 => ?_)
                    have hVS7_256 : zWM Q S7_256 := by rw [hS7_256]; exact hVS6_243.s56 ⟨by omega, by omega⟩
                    have hxS7_256 : S7_256 = zst (zst (zst (zst (zst (zst S1_2 (49, 0, 0, 0) (t * 4 + x) (u + 1)) (52, 0, 0, 0) (S1_2 (40, 0, 0, 0) 11) (t * 4 + zpa Q t k)) (53, 0, 0, 0) (S1_2 (40, 0, 0, 0) 11) (Q 2 t (zpa Q t k))) (54, 0, 0, 0) (S1_2 (40, 0, 0, 0) 11) k) (55, 0, 0, 0) (S1_2 (40, 0, 0, 0) 11) v) (56, 0, 0, 0) (S1_2 (40, 0, 0, 0) 11) (S1_2 (40, 0, 0, 0) 1) := by rw [hS7_256, hmS6_243, hcS6_243, hxS6_243]
                    have hmS7_256 : S7_256 (40, 0, 0, 0) 11 = S1_2 (40, 0, 0, 0) 11 := by first | (rw [hS7_256, zst_f _ _ _ (by decide)]; exact hmS6_243) | (rw [hS7_256, zst_k _ _ _ _ (by simp)]; done) | (rw [hS7_256, zst_k _ _ _ _ (by simp)]; exact hmS6_243)
                    have heS7_256 : S7_256 (48, 0, 0, 0) (t * 4 + zpa Q t k) = Q 2 t (zpa Q t k) := by first | (rw [hS7_256, zst_f _ _ _ (by decide)]; exact heS6_243) | (rw [hS7_256, zst_k _ _ _ _ (by simp)]; done) | (rw [hS7_256, zst_k _ _ _ _ (by simp)]; exact heS6_243)
                    have hcS7_256 : S7_256 (40, 0, 0, 0) 1 = S1_2 (40, 0, 0, 0) 1 := by first | (rw [hS7_256, zst_f _ _ _ (by decide)]; exact hcS6_243) | (rw [hS7_256, zst_k _ _ _ _ (by simp)]; done) | (rw [hS7_256, zst_k _ _ _ _ (by simp)]; exact hcS6_243)
                    have huS7_256 : S7_256 (62, 0, 0, 0) x = S1_2 (62, 0, 0, 0) x := by first | (rw [hS7_256, zst_f _ _ _ (by decide)]; exact huS6_243) | (rw [hS7_256, zst_k _ _ _ _ (by simp)]; done) | (rw [hS7_256, zst_k _ _ _ _ (by simp)]; exact huS6_243)
                    refine G_aload_n (pc := 257) 0 3 dX7_send_257 rfl rfl ?_
                    refine G_getf (pc := 258) fl_X7_51 dX7_send_258 mg_40 rfl ?_
                    refine G_aload_n (pc := 261) 0 3 dX7_send_261 rfl rfl ?_
                    refine G_getf (pc := 262) fl_X7_140 dX7_send_262 mg_40 rfl ?_
                    have hb262 := hVS7_256.f11
                    refine G_aload_n (pc := 265) 0 3 dX7_send_265 rfl rfl ?_
                    refine G_getf (pc := 266) fl_X7_63 dX7_send_266 mg_40 rfl ?_
                    refine G_iload_n (pc := 269) 2 5 dX7_send_269 rfl rfl ?_
                    refine G_iald (pc := 270) dX7_send_270 mg_62 ⟨by omega, by omega, by omega, by omega⟩ ?_
                    have hb270 := hVS7_256.b62 (x)
                    refine G_iast (pc := 271) dX7_send_271 mg_57 ⟨by omega, by omega, by omega, by omega⟩ (mp_57 _ _) ?_
                    refine G_name (fun S8_271 hS8_271 => ?_)
                    have hVS8_271 : zWM Q S8_271 := by rw [hS8_271]; exact hVS7_256.s57 ⟨by omega, by omega⟩
                    have hxS8_271 : S8_271 = zst (zst (zst (zst (zst (zst (zst S1_2 (49, 0, 0, 0) (t * 4 + x) (u + 1)) (52, 0, 0, 0) (S1_2 (40, 0, 0, 0) 11) (t * 4 + zpa Q t k)) (53, 0, 0, 0) (S1_2 (40, 0, 0, 0) 11) (Q 2 t (zpa Q t k))) (54, 0, 0, 0) (S1_2 (40, 0, 0, 0) 11) k) (55, 0, 0, 0) (S1_2 (40, 0, 0, 0) 11) v) (56, 0, 0, 0) (S1_2 (40, 0, 0, 0) 11) (S1_2 (40, 0, 0, 0) 1)) (57, 0, 0, 0) (S1_2 (40, 0, 0, 0) 11) (S1_2 (62, 0, 0, 0) x) := by rw [hS8_271, hmS7_256, huS7_256, hxS7_256]
                    have hmS8_271 : S8_271 (40, 0, 0, 0) 11 = S1_2 (40, 0, 0, 0) 11 := by first | (rw [hS8_271, zst_f _ _ _ (by decide)]; exact hmS7_256) | (rw [hS8_271, zst_k _ _ _ _ (by simp)]; done) | (rw [hS8_271, zst_k _ _ _ _ (by simp)]; exact hmS7_256)
                    have heS8_271 : S8_271 (48, 0, 0, 0) (t * 4 + zpa Q t k) = Q 2 t (zpa Q t k) := by first | (rw [hS8_271, zst_f _ _ _ (by decide)]; exact heS7_256) | (rw [hS8_271, zst_k _ _ _ _ (by simp)]; done) | (rw [hS8_271, zst_k _ _ _ _ (by simp)]; exact heS7_256)
                    have hcS8_271 : S8_271 (40, 0, 0, 0) 1 = S1_2 (40, 0, 0, 0) 1 := by first | (rw [hS8_271, zst_f _ _ _ (by decide)]; exact hcS7_256) | (rw [hS8_271, zst_k _ _ _ _ (by simp)]; done) | (rw [hS8_271, zst_k _ _ _ _ (by simp)]; exact hcS7_256)
                    have huS8_271 : S8_271 (62, 0, 0, 0) x = S1_2 (62, 0, 0, 0) x := by first | (rw [hS8_271, zst_f _ _ _ (by decide)]; exact huS7_256) | (rw [hS8_271, zst_k _ _ _ _ (by simp)]; done) | (rw [hS8_271, zst_k _ _ _ _ (by simp)]; exact huS7_256)
                    have hew := heS8_271
                    rw [← hw] at hew
                    refine G_aload_n (pc := 272) 0 3 dX7_send_272 rfl rfl ?_
                    refine G_getf (pc := 273) fl_X7_57 dX7_send_273 mg_40 rfl ?_
                    refine G_iload (pc := 276) 0 dX7_send_276 rfl ?_
                    refine G_bipush (pc := 278) dX7_send_278 (by decide) ?_
                    refine G_imul (pc := 280) dX7_send_280 ?_
                    refine G_aload_n (pc := 281) 0 3 dX7_send_281 rfl rfl ?_
                    refine G_getf (pc := 282) fl_X7_26 dX7_send_282 mg_40 rfl ?_
                    refine G_iload (pc := 285) 0 dX7_send_285 rfl ?_
                    refine G_iald (pc := 287) dX7_send_287 mg_48 ⟨by omega, by omega, by omega, by omega⟩ ?_
                    have hb287 := hVS8_271.b48 (v193)
                    refine G_iadd (pc := 288) dX7_send_288 ?_
                    refine G_aload_n (pc := 289) 0 3 dX7_send_289 rfl rfl ?_
                    refine G_dup (pc := 290) dX7_send_290 rfl ?_
                    refine G_getf (pc := 291) fl_X7_140 dX7_send_291 mg_40 rfl ?_
                    have hb291 := hVS8_271.f11
                    refine G_dup_x1 (pc := 294) dX7_send_294 rfl rfl ?_
                    refine G_iconst (pc := 295) dX7_send_295 ?_
                    refine G_iadd (pc := 296) dX7_send_296 ?_
                    refine G_putf (pc := 297) fl_X7_140 fp_X7_11 dX7_send_297 mg_40 (Nat.le_of_ble_eq_true rfl) rfl rfl (mp_40_11 _) ?_
                    refine G_name (fun S9_297 hS9_297 => ?_)
                    have hVS9_297 : zWM Q S9_297 := by rw [hS9_297]; exact hVS8_271.s40_11 (by first | assumption | exact ⟨by omega, by omega⟩)
                    have hxS9_297 : S9_297 = zst (zst (zst (zst (zst (zst (zst (zst S1_2 (49, 0, 0, 0) (t * 4 + x) (u + 1)) (52, 0, 0, 0) (S1_2 (40, 0, 0, 0) 11) (t * 4 + zpa Q t k)) (53, 0, 0, 0) (S1_2 (40, 0, 0, 0) 11) (Q 2 t (zpa Q t k))) (54, 0, 0, 0) (S1_2 (40, 0, 0, 0) 11) k) (55, 0, 0, 0) (S1_2 (40, 0, 0, 0) 11) v) (56, 0, 0, 0) (S1_2 (40, 0, 0, 0) 11) (S1_2 (40, 0, 0, 0) 1)) (57, 0, 0, 0) (S1_2 (40, 0, 0, 0) 11) (S1_2 (62, 0, 0, 0) x)) (40, 0, 0, 0) 11 (S1_2 (40, 0, 0, 0) 11 + 1) := by rw [hS9_297, hmS8_271, hxS8_271]
                    have heS9_297 : S9_297 (48, 0, 0, 0) (t * 4 + zpa Q t k) = Q 2 t (zpa Q t k) := by first | (rw [hS9_297, zst_f _ _ _ (by decide)]; exact heS8_271) | (rw [hS9_297, zst_k _ _ _ _ (by simp)]; done) | (rw [hS9_297, zst_k _ _ _ _ (by simp)]; exact heS8_271)
                    have hcS9_297 : S9_297 (40, 0, 0, 0) 1 = S1_2 (40, 0, 0, 0) 1 := by first | (rw [hS9_297, zst_f _ _ _ (by decide)]; exact hcS8_271) | (rw [hS9_297, zst_k _ _ _ _ (by simp)]; done) | (rw [hS9_297, zst_k _ _ _ _ (by simp)]; exact hcS8_271)
                    have huS9_297 : S9_297 (62, 0, 0, 0) x = S1_2 (62, 0, 0, 0) x := by first | (rw [hS9_297, zst_f _ _ _ (by decide)]; exact huS8_271) | (rw [hS9_297, zst_k _ _ _ _ (by simp)]; done) | (rw [hS9_297, zst_k _ _ _ _ (by simp)]; exact huS8_271)
                    refine G_iast (pc := 300) dX7_send_300 mg_59 ⟨by omega, by omega, by omega, by omega⟩ (mp_59 _ _) ?_
                    refine G_name (fun S10_300 hS10_300 => ?_)
                    have hVS10_300 : zWM Q S10_300 := by rw [hS10_300]; exact hVS9_297.s59 ⟨by omega, by omega⟩
                    have hxS10_300 : S10_300 = zst (zst (zst (zst (zst (zst (zst (zst (zst S1_2 (49, 0, 0, 0) (t * 4 + x) (u + 1)) (52, 0, 0, 0) (S1_2 (40, 0, 0, 0) 11) (t * 4 + zpa Q t k)) (53, 0, 0, 0) (S1_2 (40, 0, 0, 0) 11) (Q 2 t (zpa Q t k))) (54, 0, 0, 0) (S1_2 (40, 0, 0, 0) 11) k) (55, 0, 0, 0) (S1_2 (40, 0, 0, 0) 11) v) (56, 0, 0, 0) (S1_2 (40, 0, 0, 0) 11) (S1_2 (40, 0, 0, 0) 1)) (57, 0, 0, 0) (S1_2 (40, 0, 0, 0) 11) (S1_2 (62, 0, 0, 0) x)) (40, 0, 0, 0) 11 (S1_2 (40, 0, 0, 0) 11 + 1)) (59, 0, 0, 0) (((t * 4 + zpa Q t k) * 80 + Q 2 t (zpa Q t k))) (S1_2 (40, 0, 0, 0) 11) := by rw [hS10_300, hmS8_271, hw, heS8_271, hxS9_297]
                    have heS10_300 : S10_300 (48, 0, 0, 0) (t * 4 + zpa Q t k) = Q 2 t (zpa Q t k) := by first | (rw [hS10_300, zst_f _ _ _ (by decide)]; exact heS9_297) | (rw [hS10_300, zst_k _ _ _ _ (by simp)]; done) | (rw [hS10_300, zst_k _ _ _ _ (by simp)]; exact heS9_297)
                    have hcS10_300 : S10_300 (40, 0, 0, 0) 1 = S1_2 (40, 0, 0, 0) 1 := by first | (rw [hS10_300, zst_f _ _ _ (by decide)]; exact hcS9_297) | (rw [hS10_300, zst_k _ _ _ _ (by simp)]; done) | (rw [hS10_300, zst_k _ _ _ _ (by simp)]; exact hcS9_297)
                    have huS10_300 : S10_300 (62, 0, 0, 0) x = S1_2 (62, 0, 0, 0) x := by first | (rw [hS10_300, zst_f _ _ _ (by decide)]; exact huS9_297) | (rw [hS10_300, zst_k _ _ _ _ (by simp)]; done) | (rw [hS10_300, zst_k _ _ _ _ (by simp)]; exact huS9_297)
                    have hew2 := heS10_300
                    rw [← hw] at hew2
                    refine G_aload_n (pc := 301) 0 3 dX7_send_301 rfl rfl ?_
                    refine G_getf (pc := 302) fl_X7_26 dX7_send_302 mg_40 rfl ?_
                    refine G_iload (pc := 305) 0 dX7_send_305 rfl ?_
                    refine G_dup2 (pc := 307) dX7_send_307 rfl rfl ?_
                    refine G_iald (pc := 308) dX7_send_308 mg_48 ⟨by omega, by omega, by omega, by omega⟩ ?_
                    have hb308 := hVS10_300.b48 (v193)
                    refine G_iconst (pc := 309) dX7_send_309 ?_
                    refine G_iadd (pc := 310) dX7_send_310 ?_
                    refine G_iast (pc := 311) dX7_send_311 mg_48 ⟨by omega, by omega, by omega, by omega⟩ (mp_48 _ _) ?_
                    refine G_name (fun S11_311 hS11_311 => ?_)
                    have hxS11_311 : S11_311 = zst (zst (zst (zst (zst (zst (zst (zst (zst (zst S1_2 (49, 0, 0, 0) (t * 4 + x) (u + 1)) (52, 0, 0, 0) (S1_2 (40, 0, 0, 0) 11) (t * 4 + zpa Q t k)) (53, 0, 0, 0) (S1_2 (40, 0, 0, 0) 11) (Q 2 t (zpa Q t k))) (54, 0, 0, 0) (S1_2 (40, 0, 0, 0) 11) k) (55, 0, 0, 0) (S1_2 (40, 0, 0, 0) 11) v) (56, 0, 0, 0) (S1_2 (40, 0, 0, 0) 11) (S1_2 (40, 0, 0, 0) 1)) (57, 0, 0, 0) (S1_2 (40, 0, 0, 0) 11) (S1_2 (62, 0, 0, 0) x)) (40, 0, 0, 0) 11 (S1_2 (40, 0, 0, 0) 11 + 1)) (59, 0, 0, 0) (((t * 4 + zpa Q t k) * 80 + Q 2 t (zpa Q t k))) (S1_2 (40, 0, 0, 0) 11)) (48, 0, 0, 0) ((t * 4 + zpa Q t k)) (Q 2 t (zpa Q t k) + 1) := by rw [hS11_311, hw, heS10_300, hxS10_300]
                    have hV9 : zWM Q2 S11_311 := by rw [hS11_311, hw]; exact hVS10_300.send ht hpl hg hq80
                    refine G_aload_n (pc := 312) 0 3 dX7_send_312 rfl rfl ?_
                    refine G_callVv (pc := 313) gk_X7_146 dX7_send_313 mg_40 rfl (c_X7_settle (Q := Q2) (by first | assumption | omega | exact ⟨by omega, by omega⟩ | exact hS _ _ | exact hT _ _) (by first | assumption | omega | exact ⟨by omega, by omega⟩ | exact hS _ _ | exact hT _ _)) rfl rfl (Nat.le_of_ble_eq_true rfl) ⟨⟨Nat.le_of_ble_eq_true rfl, Nat.le_of_ble_eq_true rfl⟩, Nat.le_of_ble_eq_true rfl, Nat.le_of_ble_eq_true rfl⟩ ?_
                    refine G_name (fun S12_313 hS12_313 => ?_)
                    have hf9 : S12_313 (48, 0, 0, 0) v193 = S11_311 (48, 0, 0, 0) v193 := by rw [hS12_313]; exact msa_fr (K := fun n => n == 65 || n == 66) rfl rfl _ _ rfl
                    have hf8 : S11_311 (48, 0, 0, 0) v193 = Q 2 t (zpa Q t k) + 1 := by rw [hxS11_311, hw, zst_s]
                    have hfin : S12_313 = msa Q2 (mssd (zst S (40, 0, 0, 0) 0 0) t (zpa Q t k) (Q 2 t (zpa Q t k)) x k v u) := by rw [hS12_313, hxS11_311, hS1_2]; rfl
                    refine G_aload_n (pc := 316) 0 3 dX7_send_316 rfl rfl ?_
                    refine G_getf (pc := 317) fl_X7_26 dX7_send_317 mg_40 rfl ?_
                    refine G_iload (pc := 320) 0 dX7_send_320 rfl ?_
                    refine G_iald (pc := 322) dX7_send_322 mg_48 ⟨by omega, by omega, by omega, by omega⟩ ?_
                    refine G_iconst (pc := 323) dX7_send_323 ?_
                    refine G_isub (pc := 324) dX7_send_324 ?_
                    exact G_iret_m (pc := 325) hF dX7_send_325 ⟨Nat.le_of_ble_eq_true rfl, Nat.le_of_ble_eq_true rfl⟩ (by omega) (by rw [hfin])
                  · refine G_iconst (pc := 124) dX7_send_124 ?_
                    refine G_istore_e (pc := 125) (fun zw => [(8, .int (zI zw)), (7, .int (zI v116)), (6, .int (zI v69)), (0, .ref (ad (40, 0, 0, 0))), (1, .int (zI t)), (2, .int (zI x)), (3, .int (zI u)), (4, .int (zI k)), (5, .int (zI v))]) dX7_send_125 (by decide) (fun _ => rfl) (fun v125 e125 => ?_)
                    have L127 : ∀ (n : Nat) (q : Int) (j : Int), (((1 ≤ j ∧ j ≤ Q 1 t 0) ∧ (0 ≤ q ∧ q < Q 1 t 0)) ∧ lp (zpf Q t) j (Q 1 t 0) q = lp (zpf Q t) 1 (Q 1 t 0) 0) → (Q 1 t 0 - j).toNat < n → G Γ (zRm 9 0 0) cX7_send 9 RX7 ad (mm (z_d Γ) ad P S2_114 X) 0 0 127 [(0, .ref (ad (40, 0, 0, 0))), (1, .int (zI t)), (2, .int (zI x)), (3, .int (zI u)), (4, .int (zI k)), (5, .int (zI v)), (6, .int (zI v69)), (7, .int (zI q)), (8, .int (zI j))] [] := by
                      intro n
                      induction n with
                      | zero => intro q j _ hn; omega
                      | succ n ih127 =>
                        intro q j hi127 hn127
                        have heq := hVS2_114.en ht hi127.1.2
                        have hej := fun h => hVS2_114.en ht (p := j) ⟨by omega, h⟩
                        refine G_iload (pc := 127) 8 dX7_send_127 rfl ?_
                        refine G_aload_n (pc := 129) 0 0 dX7_send_129 rfl rfl ?_
                        refine G_getf (pc := 130) fl_X7_16 dX7_send_130 mg_40 rfl ?_
                        refine G_iload_n (pc := 133) 1 1 dX7_send_133 rfl rfl ?_
                        refine G_iald (pc := 134) dX7_send_134 mg_45 ⟨by omega, by omega, by omega, by omega⟩ ?_
                        have hb134 := hVS2_114.b45 (t)
                        refine G_icmp_ge (pc := 135) 173 dX7_send_135 (by decide) (by first | exact hS _ _ | exact hT _ _ | exact ⟨by omega, by omega⟩ | assumption | exact zWM.r (by assumption) _ _ (by decide)) (by first | exact hS _ _ | exact hT _ _ | exact ⟨by omega, by omega⟩ | assumption | exact zWM.r (by assumption) _ _ (by decide)) (fun c135 => ?_) (fun c135 => ?_)
                        · refine G_goto (pc := 173) 187 dX7_send_173 (by decide) ?_
                          have hp7 : q = zpa Q t k := by first | (rw [show zpa Q t k = lp (zpf Q t) 1 (Q 1 t 0) 0 from if_pos c121, ← hi127.2, lp_end (by omega)]; done) | (rw [e185, hpn2]; exact (if_neg c121).symm)
                          refine G_iload_n (pc := 187) 1 1 dX7_send_187 rfl rfl ?_
                          refine G_iconst (pc := 188) dX7_send_188 ?_
                          refine G_imul (pc := 189) dX7_send_189 ?_
                          refine G_iload (pc := 190) 7 dX7_send_190 rfl ?_
                          refine G_iadd (pc := 192) dX7_send_192 ?_
                          refine G_istore_e (pc := 193) (fun zw => [(8, .int (zI zw)), (0, .ref (ad (40, 0, 0, 0))), (1, .int (zI t)), (2, .int (zI x)), (3, .int (zI u)), (4, .int (zI k)), (5, .int (zI v)), (6, .int (zI v69)), (7, .int (zI q))]) dX7_send_193 (by decide) (fun _ => rfl) (fun v193 e193 => ?_)
                          have hw : v193 = (t * 4 + zpa Q t k) := by rw [e193, hp7]
                          have hw16 : 0 ≤ v193 ∧ v193 < 16 := by omega
                          refine G_aload_n (pc := 195) 0 1 dX7_send_195 rfl rfl ?_
                          refine G_getf (pc := 196) fl_X7_36 dX7_send_196 mg_40 rfl ?_
                          refine G_aload_n (pc := 199) 0 1 dX7_send_199 rfl rfl ?_
                          refine G_getf (pc := 200) fl_X7_140 dX7_send_200 mg_40 rfl ?_
                          have hb200 := hVS2_114.f11
                          refine G_iload (pc := 203) 0 dX7_send_203 rfl ?_
                          refine G_iast (pc := 205) dX7_send_205 mg_52 ⟨by omega, by omega, by omega, by omega⟩ (mp_52 _ _) ?_
                          refine G_name (fun S13_205 hS13_205 => ?_)
                          have hVS13_205 : zWM Q S13_205 := by rw [hS13_205]; exact hVS2_114.s52 ⟨by omega, by omega⟩
                          have hxS13_205 : S13_205 = zst (zst S1_2 (49, 0, 0, 0) (t * 4 + x) (u + 1)) (52, 0, 0, 0) (S1_2 (40, 0, 0, 0) 11) (t * 4 + zpa Q t k) := by rw [hS13_205, hmS2_114, hw, hxS2_114]
                          have hmS13_205 : S13_205 (40, 0, 0, 0) 11 = S1_2 (40, 0, 0, 0) 11 := by first | (rw [hS13_205, zst_f _ _ _ (by decide)]; exact hmS2_114) | (rw [hS13_205, zst_k _ _ _ _ (by simp)]; done) | (rw [hS13_205, zst_k _ _ _ _ (by simp)]; exact hmS2_114)
                          have heS13_205 : S13_205 (48, 0, 0, 0) (t * 4 + zpa Q t k) = Q 2 t (zpa Q t k) := by first | (rw [hS13_205, zst_f _ _ _ (by decide)]; exact heS2_114) | (rw [hS13_205, zst_k _ _ _ _ (by simp)]; done) | (rw [hS13_205, zst_k _ _ _ _ (by simp)]; exact heS2_114)
                          have hcS13_205 : S13_205 (40, 0, 0, 0) 1 = S1_2 (40, 0, 0, 0) 1 := by first | (rw [hS13_205, zst_f _ _ _ (by decide)]; exact hcS2_114) | (rw [hS13_205, zst_k _ _ _ _ (by simp)]; done) | (rw [hS13_205, zst_k _ _ _ _ (by simp)]; exact hcS2_114)
                          have huS13_205 : S13_205 (62, 0, 0, 0) x = S1_2 (62, 0, 0, 0) x := by first | (rw [hS13_205, zst_f _ _ _ (by decide)]; exact huS2_114) | (rw [hS13_205, zst_k _ _ _ _ (by simp)]; done) | (rw [hS13_205, zst_k _ _ _ _ (by simp)]; exact huS2_114)
                          have hew1 := heS13_205
                          rw [← hw] at hew1
                          refine G_aload_n (pc := 206) 0 1 dX7_send_206 rfl rfl ?_
                          refine G_getf (pc := 207) fl_X7_39 dX7_send_207 mg_40 rfl ?_
                          refine G_aload_n (pc := 210) 0 1 dX7_send_210 rfl rfl ?_
                          refine G_getf (pc := 211) fl_X7_140 dX7_send_211 mg_40 rfl ?_
                          have hb211 := hVS13_205.f11
                          refine G_aload_n (pc := 214) 0 1 dX7_send_214 rfl rfl ?_
                          refine G_getf (pc := 215) fl_X7_26 dX7_send_215 mg_40 rfl ?_
                          refine G_iload (pc := 218) 0 dX7_send_218 rfl ?_
                          refine G_iald (pc := 220) dX7_send_220 mg_48 ⟨by omega, by omega, by omega, by omega⟩ ?_
                          have hb220 := hVS13_205.b48 (v193)
                          refine G_iast (pc := 221) dX7_send_221 mg_53 ⟨by omega, by omega, by omega, by omega⟩ (mp_53 _ _) ?_
                          refine G_name (fun S14_221 hS14_221 => ?_)
                          have hVS14_221 : zWM Q S14_221 := by rw [hS14_221]; exact hVS13_205.s53 ⟨by omega, by omega⟩
                          have hxS14_221 : S14_221 = zst (zst (zst S1_2 (49, 0, 0, 0) (t * 4 + x) (u + 1)) (52, 0, 0, 0) (S1_2 (40, 0, 0, 0) 11) (t * 4 + zpa Q t k)) (53, 0, 0, 0) (S1_2 (40, 0, 0, 0) 11) (Q 2 t (zpa Q t k)) := by rw [hS14_221, hmS13_205, hw, heS13_205, hxS13_205]
                          have hmS14_221 : S14_221 (40, 0, 0, 0) 11 = S1_2 (40, 0, 0, 0) 11 := by first | (rw [hS14_221, zst_f _ _ _ (by decide)]; exact hmS13_205) | (rw [hS14_221, zst_k _ _ _ _ (by simp)]; done) | (rw [hS14_221, zst_k _ _ _ _ (by simp)]; exact hmS13_205)
                          have heS14_221 : S14_221 (48, 0, 0, 0) (t * 4 + zpa Q t k) = Q 2 t (zpa Q t k) := by first | (rw [hS14_221, zst_f _ _ _ (by decide)]; exact heS13_205) | (rw [hS14_221, zst_k _ _ _ _ (by simp)]; done) | (rw [hS14_221, zst_k _ _ _ _ (by simp)]; exact heS13_205)
                          have hcS14_221 : S14_221 (40, 0, 0, 0) 1 = S1_2 (40, 0, 0, 0) 1 := by first | (rw [hS14_221, zst_f _ _ _ (by decide)]; exact hcS13_205) | (rw [hS14_221, zst_k _ _ _ _ (by simp)]; done) | (rw [hS14_221, zst_k _ _ _ _ (by simp)]; exact hcS13_205)
                          have huS14_221 : S14_221 (62, 0, 0, 0) x = S1_2 (62, 0, 0, 0) x := by first | (rw [hS14_221, zst_f _ _ _ (by decide)]; exact huS13_205) | (rw [hS14_221, zst_k _ _ _ _ (by simp)]; done) | (rw [hS14_221, zst_k _ _ _ _ (by simp)]; exact huS13_205)
                          refine G_aload_n (pc := 222) 0 1 dX7_send_222 rfl rfl ?_
                          refine G_getf (pc := 223) fl_X7_42 dX7_send_223 mg_40 rfl ?_
                          refine G_aload_n (pc := 226) 0 1 dX7_send_226 rfl rfl ?_
                          refine G_getf (pc := 227) fl_X7_140 dX7_send_227 mg_40 rfl ?_
                          have hb227 := hVS14_221.f11
                          refine G_iload (pc := 230) 5 dX7_send_230 rfl ?_
                          refine G_iast (pc := 232) dX7_send_232 mg_54 ⟨by omega, by omega, by omega, by omega⟩ (mp_54 _ _) ?_
                          refine G_name (fun S15_232 hS15_232 => ?_)
                          have hVS15_232 : zWM Q S15_232 := by rw [hS15_232]; exact hVS14_221.s54 ⟨by omega, by omega⟩
                          have hxS15_232 : S15_232 = zst (zst (zst (zst S1_2 (49, 0, 0, 0) (t * 4 + x) (u + 1)) (52, 0, 0, 0) (S1_2 (40, 0, 0, 0) 11) (t * 4 + zpa Q t k)) (53, 0, 0, 0) (S1_2 (40, 0, 0, 0) 11) (Q 2 t (zpa Q t k))) (54, 0, 0, 0) (S1_2 (40, 0, 0, 0) 11) k := by rw [hS15_232, hmS14_221, hxS14_221]
                          have hmS15_232 : S15_232 (40, 0, 0, 0) 11 = S1_2 (40, 0, 0, 0) 11 := by first | (rw [hS15_232, zst_f _ _ _ (by decide)]; exact hmS14_221) | (rw [hS15_232, zst_k _ _ _ _ (by simp)]; done) | (rw [hS15_232, zst_k _ _ _ _ (by simp)]; exact hmS14_221)
                          have heS15_232 : S15_232 (48, 0, 0, 0) (t * 4 + zpa Q t k) = Q 2 t (zpa Q t k) := by first | (rw [hS15_232, zst_f _ _ _ (by decide)]; exact heS14_221) | (rw [hS15_232, zst_k _ _ _ _ (by simp)]; done) | (rw [hS15_232, zst_k _ _ _ _ (by simp)]; exact heS14_221)
                          have hcS15_232 : S15_232 (40, 0, 0, 0) 1 = S1_2 (40, 0, 0, 0) 1 := by first | (rw [hS15_232, zst_f _ _ _ (by decide)]; exact hcS14_221) | (rw [hS15_232, zst_k _ _ _ _ (by simp)]; done) | (rw [hS15_232, zst_k _ _ _ _ (by simp)]; exact hcS14_221)
                          have huS15_232 : S15_232 (62, 0, 0, 0) x = S1_2 (62, 0, 0, 0) x := by first | (rw [hS15_232, zst_f _ _ _ (by decide)]; exact huS14_221) | (rw [hS15_232, zst_k _ _ _ _ (by simp)]; done) | (rw [hS15_232, zst_k _ _ _ _ (by simp)]; exact huS14_221)
                          refine G_aload_n (pc := 233) 0 1 dX7_send_233 rfl rfl ?_
                          refine G_getf (pc := 234) fl_X7_45 dX7_send_234 mg_40 rfl ?_
                          refine G_aload_n (pc := 237) 0 1 dX7_send_237 rfl rfl ?_
                          refine G_getf (pc := 238) fl_X7_140 dX7_send_238 mg_40 rfl ?_
                          have hb238 := hVS15_232.f11
                          refine G_iload (pc := 241) 6 dX7_send_241 rfl ?_
                          refine G_iast (pc := 243) dX7_send_243 mg_55 ⟨by omega, by omega, by omega, by omega⟩ (mp_55 _ _) ?_
                          refine G_name (fun S16_243 hS16_243 => ?_)
                          have hVS16_243 : zWM Q S16_243 := by rw [hS16_243]; exact hVS15_232.s55 ⟨by omega, by omega⟩
                          have hxS16_243 : S16_243 = zst (zst (zst (zst (zst S1_2 (49, 0, 0, 0) (t * 4 + x) (u + 1)) (52, 0, 0, 0) (S1_2 (40, 0, 0, 0) 11) (t * 4 + zpa Q t k)) (53, 0, 0, 0) (S1_2 (40, 0, 0, 0) 11) (Q 2 t (zpa Q t k))) (54, 0, 0, 0) (S1_2 (40, 0, 0, 0) 11) k) (55, 0, 0, 0) (S1_2 (40, 0, 0, 0) 11) v := by rw [hS16_243, hmS15_232, hxS15_232]
                          have hmS16_243 : S16_243 (40, 0, 0, 0) 11 = S1_2 (40, 0, 0, 0) 11 := by first | (rw [hS16_243, zst_f _ _ _ (by decide)]; exact hmS15_232) | (rw [hS16_243, zst_k _ _ _ _ (by simp)]; done) | (rw [hS16_243, zst_k _ _ _ _ (by simp)]; exact hmS15_232)
                          have heS16_243 : S16_243 (48, 0, 0, 0) (t * 4 + zpa Q t k) = Q 2 t (zpa Q t k) := by first | (rw [hS16_243, zst_f _ _ _ (by decide)]; exact heS15_232) | (rw [hS16_243, zst_k _ _ _ _ (by simp)]; done) | (rw [hS16_243, zst_k _ _ _ _ (by simp)]; exact heS15_232)
                          have hcS16_243 : S16_243 (40, 0, 0, 0) 1 = S1_2 (40, 0, 0, 0) 1 := by first | (rw [hS16_243, zst_f _ _ _ (by decide)]; exact hcS15_232) | (rw [hS16_243, zst_k _ _ _ _ (by simp)]; done) | (rw [hS16_243, zst_k _ _ _ _ (by simp)]; exact hcS15_232)
                          have huS16_243 : S16_243 (62, 0, 0, 0) x = S1_2 (62, 0, 0, 0) x := by first | (rw [hS16_243, zst_f _ _ _ (by decide)]; exact huS15_232) | (rw [hS16_243, zst_k _ _ _ _ (by simp)]; done) | (rw [hS16_243, zst_k _ _ _ _ (by simp)]; exact huS15_232)
                          refine G_aload_n (pc := 244) 0 1 dX7_send_244 rfl rfl ?_
                          refine G_getf (pc := 245) fl_X7_48 dX7_send_245 mg_40 rfl ?_
                          refine G_aload_n (pc := 248) 0 1 dX7_send_248 rfl rfl ?_
                          refine G_getf (pc := 249) fl_X7_140 dX7_send_249 mg_40 rfl ?_
                          have hb249 := hVS16_243.f11
                          refine G_aload_n (pc := 252) 0 1 dX7_send_252 rfl rfl ?_
                          refine G_getf (pc := 253) fl_X7_143 dX7_send_253 mg_40 rfl ?_
                          have hb253 := hVS16_243.f1
                          refine G_iast (pc := 256) dX7_send_256 mg_56 ⟨by omega, by omega, by omega, by omega⟩ (mp_56 _ _) ?_
                          refine G_name (fun S17_256 hS17_256 => ?_)
                          have hVS17_256 : zWM Q S17_256 := by rw [hS17_256]; exact hVS16_243.s56 ⟨by omega, by omega⟩
                          have hxS17_256 : S17_256 = zst (zst (zst (zst (zst (zst S1_2 (49, 0, 0, 0) (t * 4 + x) (u + 1)) (52, 0, 0, 0) (S1_2 (40, 0, 0, 0) 11) (t * 4 + zpa Q t k)) (53, 0, 0, 0) (S1_2 (40, 0, 0, 0) 11) (Q 2 t (zpa Q t k))) (54, 0, 0, 0) (S1_2 (40, 0, 0, 0) 11) k) (55, 0, 0, 0) (S1_2 (40, 0, 0, 0) 11) v) (56, 0, 0, 0) (S1_2 (40, 0, 0, 0) 11) (S1_2 (40, 0, 0, 0) 1) := by rw [hS17_256, hmS16_243, hcS16_243, hxS16_243]
                          have hmS17_256 : S17_256 (40, 0, 0, 0) 11 = S1_2 (40, 0, 0, 0) 11 := by first | (rw [hS17_256, zst_f _ _ _ (by decide)]; exact hmS16_243) | (rw [hS17_256, zst_k _ _ _ _ (by simp)]; done) | (rw [hS17_256, zst_k _ _ _ _ (by simp)]; exact hmS16_243)
                          have heS17_256 : S17_256 (48, 0, 0, 0) (t * 4 + zpa Q t k) = Q 2 t (zpa Q t k) := by first | (rw [hS17_256, zst_f _ _ _ (by decide)]; exact heS16_243) | (rw [hS17_256, zst_k _ _ _ _ (by simp)]; done) | (rw [hS17_256, zst_k _ _ _ _ (by simp)]; exact heS16_243)
                          have hcS17_256 : S17_256 (40, 0, 0, 0) 1 = S1_2 (40, 0, 0, 0) 1 := by first | (rw [hS17_256, zst_f _ _ _ (by decide)]; exact hcS16_243) | (rw [hS17_256, zst_k _ _ _ _ (by simp)]; done) | (rw [hS17_256, zst_k _ _ _ _ (by simp)]; exact hcS16_243)
                          have huS17_256 : S17_256 (62, 0, 0, 0) x = S1_2 (62, 0, 0, 0) x := by first | (rw [hS17_256, zst_f _ _ _ (by decide)]; exact huS16_243) | (rw [hS17_256, zst_k _ _ _ _ (by simp)]; done) | (rw [hS17_256, zst_k _ _ _ _ (by simp)]; exact huS16_243)
                          refine G_aload_n (pc := 257) 0 1 dX7_send_257 rfl rfl ?_
                          refine G_getf (pc := 258) fl_X7_51 dX7_send_258 mg_40 rfl ?_
                          refine G_aload_n (pc := 261) 0 1 dX7_send_261 rfl rfl ?_
                          refine G_getf (pc := 262) fl_X7_140 dX7_send_262 mg_40 rfl ?_
                          have hb262 := hVS17_256.f11
                          refine G_aload_n (pc := 265) 0 1 dX7_send_265 rfl rfl ?_
                          refine G_getf (pc := 266) fl_X7_63 dX7_send_266 mg_40 rfl ?_
                          refine G_iload_n (pc := 269) 2 3 dX7_send_269 rfl rfl ?_
                          refine G_iald (pc := 270) dX7_send_270 mg_62 ⟨by omega, by omega, by omega, by omega⟩ ?_
                          have hb270 := hVS17_256.b62 (x)
                          refine G_iast (pc := 271) dX7_send_271 mg_57 ⟨by omega, by omega, by omega, by omega⟩ (mp_57 _ _) ?_
                          refine G_name (fun S18_271 hS18_271 => ?_)
                          have hVS18_271 : zWM Q S18_271 := by rw [hS18_271]; exact hVS17_256.s57 ⟨by omega, by omega⟩
                          have hxS18_271 : S18_271 = zst (zst (zst (zst (zst (zst (zst S1_2 (49, 0, 0, 0) (t * 4 + x) (u + 1)) (52, 0, 0, 0) (S1_2 (40, 0, 0, 0) 11) (t * 4 + zpa Q t k)) (53, 0, 0, 0) (S1_2 (40, 0, 0, 0) 11) (Q 2 t (zpa Q t k))) (54, 0, 0, 0) (S1_2 (40, 0, 0, 0) 11) k) (55, 0, 0, 0) (S1_2 (40, 0, 0, 0) 11) v) (56, 0, 0, 0) (S1_2 (40, 0, 0, 0) 11) (S1_2 (40, 0, 0, 0) 1)) (57, 0, 0, 0) (S1_2 (40, 0, 0, 0) 11) (S1_2 (62, 0, 0, 0) x) := by rw [hS18_271, hmS17_256, huS17_256, hxS17_256]
                          have hmS18_271 : S18_271 (40, 0, 0, 0) 11 = S1_2 (40, 0, 0, 0) 11 := by first | (rw [hS18_271, zst_f _ _ _ (by decide)]; exact hmS17_256) | (rw [hS18_271, zst_k _ _ _ _ (by simp)]; done) | (rw [hS18_271, zst_k _ _ _ _ (by simp)]; exact hmS17_256)
                          have heS18_271 : S18_271 (48, 0, 0, 0) (t * 4 + zpa Q t k) = Q 2 t (zpa Q t k) := by first | (rw [hS18_271, zst_f _ _ _ (by decide)]; exact heS17_256) | (rw [hS18_271, zst_k _ _ _ _ (by simp)]; done) | (rw [hS18_271, zst_k _ _ _ _ (by simp)]; exact heS17_256)
                          have hcS18_271 : S18_271 (40, 0, 0, 0) 1 = S1_2 (40, 0, 0, 0) 1 := by first | (rw [hS18_271, zst_f _ _ _ (by decide)]; exact hcS17_256) | (rw [hS18_271, zst_k _ _ _ _ (by simp)]; done) | (rw [hS18_271, zst_k _ _ _ _ (by simp)]; exact hcS17_256)
                          have huS18_271 : S18_271 (62, 0, 0, 0) x = S1_2 (62, 0, 0, 0) x := by first | (rw [hS18_271, zst_f _ _ _ (by decide)]; exact huS17_256) | (rw [hS18_271, zst_k _ _ _ _ (by simp)]; done) | (rw [hS18_271, zst_k _ _ _ _ (by simp)]; exact huS17_256)
                          have hew := heS18_271
                          rw [← hw] at hew
                          refine G_aload_n (pc := 272) 0 1 dX7_send_272 rfl rfl ?_
                          refine G_getf (pc := 273) fl_X7_57 dX7_send_273 mg_40 rfl ?_
                          refine G_iload (pc := 276) 0 dX7_send_276 rfl ?_
                          refine G_bipush (pc := 278) dX7_send_278 (by decide) ?_
                          refine G_imul (pc := 280) dX7_send_280 ?_
                          refine G_aload_n (pc := 281) 0 1 dX7_send_281 rfl rfl ?_
                          refine G_getf (pc := 282) fl_X7_26 dX7_send_282 mg_40 rfl ?_
                          refine G_iload (pc := 285) 0 dX7_send_285 rfl ?_
                          refine G_iald (pc := 287) dX7_send_287 mg_48 ⟨by omega, by omega, by omega, by omega⟩ ?_
                          have hb287 := hVS18_271.b48 (v193)
                          refine G_iadd (pc := 288) dX7_send_288 ?_
                          refine G_aload_n (pc := 289) 0 1 dX7_send_289 rfl rfl ?_
                          refine G_dup (pc := 290) dX7_send_290 rfl ?_
                          refine G_getf (pc := 291) fl_X7_140 dX7_send_291 mg_40 rfl ?_
                          have hb291 := hVS18_271.f11
                          refine G_dup_x1 (pc := 294) dX7_send_294 rfl rfl ?_
                          refine G_iconst (pc := 295) dX7_send_295 ?_
                          refine G_iadd (pc := 296) dX7_send_296 ?_
                          refine G_putf (pc := 297) fl_X7_140 fp_X7_11 dX7_send_297 mg_40 (Nat.le_of_ble_eq_true rfl) rfl rfl (mp_40_11 _) ?_
                          refine G_name (fun S19_297 hS19_297 => ?_)
                          have hVS19_297 : zWM Q S19_297 := by rw [hS19_297]; exact hVS18_271.s40_11 (by first | assumption | exact ⟨by omega, by omega⟩)
                          have hxS19_297 : S19_297 = zst (zst (zst (zst (zst (zst (zst (zst S1_2 (49, 0, 0, 0) (t * 4 + x) (u + 1)) (52, 0, 0, 0) (S1_2 (40, 0, 0, 0) 11) (t * 4 + zpa Q t k)) (53, 0, 0, 0) (S1_2 (40, 0, 0, 0) 11) (Q 2 t (zpa Q t k))) (54, 0, 0, 0) (S1_2 (40, 0, 0, 0) 11) k) (55, 0, 0, 0) (S1_2 (40, 0, 0, 0) 11) v) (56, 0, 0, 0) (S1_2 (40, 0, 0, 0) 11) (S1_2 (40, 0, 0, 0) 1)) (57, 0, 0, 0) (S1_2 (40, 0, 0, 0) 11) (S1_2 (62, 0, 0, 0) x)) (40, 0, 0, 0) 11 (S1_2 (40, 0, 0, 0) 11 + 1) := by rw [hS19_297, hmS18_271, hxS18_271]
                          have heS19_297 : S19_297 (48, 0, 0, 0) (t * 4 + zpa Q t k) = Q 2 t (zpa Q t k) := by first | (rw [hS19_297, zst_f _ _ _ (by decide)]; exact heS18_271) | (rw [hS19_297, zst_k _ _ _ _ (by simp)]; done) | (rw [hS19_297, zst_k _ _ _ _ (by simp)]; exact heS18_271)
                          have hcS19_297 : S19_297 (40, 0, 0, 0) 1 = S1_2 (40, 0, 0, 0) 1 := by first | (rw [hS19_297, zst_f _ _ _ (by decide)]; exact hcS18_271) | (rw [hS19_297, zst_k _ _ _ _ (by simp)]; done) | (rw [hS19_297, zst_k _ _ _ _ (by simp)]; exact hcS18_271)
                          have huS19_297 : S19_297 (62, 0, 0, 0) x = S1_2 (62, 0, 0, 0) x := by first | (rw [hS19_297, zst_f _ _ _ (by decide)]; exact huS18_271) | (rw [hS19_297, zst_k _ _ _ _ (by simp)]; done) | (rw [hS19_297, zst_k _ _ _ _ (by simp)]; exact huS18_271)
                          refine G_iast (pc := 300) dX7_send_300 mg_59 ⟨by omega, by omega, by omega, by omega⟩ (mp_59 _ _) ?_
                          refine G_name (fun S20_300 hS20_300 => ?_)
                          have hVS20_300 : zWM Q S20_300 := by rw [hS20_300]; exact hVS19_297.s59 ⟨by omega, by omega⟩
                          have hxS20_300 : S20_300 = zst (zst (zst (zst (zst (zst (zst (zst (zst S1_2 (49, 0, 0, 0) (t * 4 + x) (u + 1)) (52, 0, 0, 0) (S1_2 (40, 0, 0, 0) 11) (t * 4 + zpa Q t k)) (53, 0, 0, 0) (S1_2 (40, 0, 0, 0) 11) (Q 2 t (zpa Q t k))) (54, 0, 0, 0) (S1_2 (40, 0, 0, 0) 11) k) (55, 0, 0, 0) (S1_2 (40, 0, 0, 0) 11) v) (56, 0, 0, 0) (S1_2 (40, 0, 0, 0) 11) (S1_2 (40, 0, 0, 0) 1)) (57, 0, 0, 0) (S1_2 (40, 0, 0, 0) 11) (S1_2 (62, 0, 0, 0) x)) (40, 0, 0, 0) 11 (S1_2 (40, 0, 0, 0) 11 + 1)) (59, 0, 0, 0) (((t * 4 + zpa Q t k) * 80 + Q 2 t (zpa Q t k))) (S1_2 (40, 0, 0, 0) 11) := by rw [hS20_300, hmS18_271, hw, heS18_271, hxS19_297]
                          have heS20_300 : S20_300 (48, 0, 0, 0) (t * 4 + zpa Q t k) = Q 2 t (zpa Q t k) := by first | (rw [hS20_300, zst_f _ _ _ (by decide)]; exact heS19_297) | (rw [hS20_300, zst_k _ _ _ _ (by simp)]; done) | (rw [hS20_300, zst_k _ _ _ _ (by simp)]; exact heS19_297)
                          have hcS20_300 : S20_300 (40, 0, 0, 0) 1 = S1_2 (40, 0, 0, 0) 1 := by first | (rw [hS20_300, zst_f _ _ _ (by decide)]; exact hcS19_297) | (rw [hS20_300, zst_k _ _ _ _ (by simp)]; done) | (rw [hS20_300, zst_k _ _ _ _ (by simp)]; exact hcS19_297)
                          have huS20_300 : S20_300 (62, 0, 0, 0) x = S1_2 (62, 0, 0, 0) x := by first | (rw [hS20_300, zst_f _ _ _ (by decide)]; exact huS19_297) | (rw [hS20_300, zst_k _ _ _ _ (by simp)]; done) | (rw [hS20_300, zst_k _ _ _ _ (by simp)]; exact huS19_297)
                          have hew2 := heS20_300
                          rw [← hw] at hew2
                          refine G_aload_n (pc := 301) 0 1 dX7_send_301 rfl rfl ?_
                          refine G_getf (pc := 302) fl_X7_26 dX7_send_302 mg_40 rfl ?_
                          refine G_iload (pc := 305) 0 dX7_send_305 rfl ?_
                          refine G_dup2 (pc := 307) dX7_send_307 rfl rfl ?_
                          refine G_iald (pc := 308) dX7_send_308 mg_48 ⟨by omega, by omega, by omega, by omega⟩ ?_
                          have hb308 := hVS20_300.b48 (v193)
                          refine G_iconst (pc := 309) dX7_send_309 ?_
                          refine G_iadd (pc := 310) dX7_send_310 ?_
                          refine G_iast (pc := 311) dX7_send_311 mg_48 ⟨by omega, by omega, by omega, by omega⟩ (mp_48 _ _) ?_
                          refine G_name (fun S21_311 hS21_311 => ?_)
                          have hxS21_311 : S21_311 = zst (zst (zst (zst (zst (zst (zst (zst (zst (zst S1_2 (49, 0, 0, 0) (t * 4 + x) (u + 1)) (52, 0, 0, 0) (S1_2 (40, 0, 0, 0) 11) (t * 4 + zpa Q t k)) (53, 0, 0, 0) (S1_2 (40, 0, 0, 0) 11) (Q 2 t (zpa Q t k))) (54, 0, 0, 0) (S1_2 (40, 0, 0, 0) 11) k) (55, 0, 0, 0) (S1_2 (40, 0, 0, 0) 11) v) (56, 0, 0, 0) (S1_2 (40, 0, 0, 0) 11) (S1_2 (40, 0, 0, 0) 1)) (57, 0, 0, 0) (S1_2 (40, 0, 0, 0) 11) (S1_2 (62, 0, 0, 0) x)) (40, 0, 0, 0) 11 (S1_2 (40, 0, 0, 0) 11 + 1)) (59, 0, 0, 0) (((t * 4 + zpa Q t k) * 80 + Q 2 t (zpa Q t k))) (S1_2 (40, 0, 0, 0) 11)) (48, 0, 0, 0) ((t * 4 + zpa Q t k)) (Q 2 t (zpa Q t k) + 1) := by rw [hS21_311, hw, heS20_300, hxS20_300]
                          have hV9 : zWM Q2 S21_311 := by rw [hS21_311, hw]; exact hVS20_300.send ht hpl hg hq80
                          refine G_aload_n (pc := 312) 0 1 dX7_send_312 rfl rfl ?_
                          refine G_callVv (pc := 313) gk_X7_146 dX7_send_313 mg_40 rfl (c_X7_settle (Q := Q2) (by first | assumption | omega | exact ⟨by omega, by omega⟩ | exact hS _ _ | exact hT _ _) (by first | assumption | omega | exact ⟨by omega, by omega⟩ | exact hS _ _ | exact hT _ _)) rfl rfl (Nat.le_of_ble_eq_true rfl) ⟨⟨Nat.le_of_ble_eq_true rfl, Nat.le_of_ble_eq_true rfl⟩, Nat.le_of_ble_eq_true rfl, Nat.le_of_ble_eq_true rfl⟩ ?_
                          refine G_name (fun S22_313 hS22_313 => ?_)
                          have hf9 : S22_313 (48, 0, 0, 0) v193 = S21_311 (48, 0, 0, 0) v193 := by rw [hS22_313]; exact msa_fr (K := fun n => n == 65 || n == 66) rfl rfl _ _ rfl
                          have hf8 : S21_311 (48, 0, 0, 0) v193 = Q 2 t (zpa Q t k) + 1 := by rw [hxS21_311, hw, zst_s]
                          have hfin : S22_313 = msa Q2 (mssd (zst S (40, 0, 0, 0) 0 0) t (zpa Q t k) (Q 2 t (zpa Q t k)) x k v u) := by rw [hS22_313, hxS21_311, hS1_2]; rfl
                          refine G_aload_n (pc := 316) 0 1 dX7_send_316 rfl rfl ?_
                          refine G_getf (pc := 317) fl_X7_26 dX7_send_317 mg_40 rfl ?_
                          refine G_iload (pc := 320) 0 dX7_send_320 rfl ?_
                          refine G_iald (pc := 322) dX7_send_322 mg_48 ⟨by omega, by omega, by omega, by omega⟩ ?_
                          refine G_iconst (pc := 323) dX7_send_323 ?_
                          refine G_isub (pc := 324) dX7_send_324 ?_
                          exact G_iret_m (pc := 325) hF dX7_send_325 ⟨Nat.le_of_ble_eq_true rfl, Nat.le_of_ble_eq_true rfl⟩ (by omega) (by rw [hfin])
                        · have hej2 := hej (by omega)
                          refine G_aload_n (pc := 138) 0 0 dX7_send_138 rfl rfl ?_
                          refine G_getf (pc := 139) fl_X7_26 dX7_send_139 mg_40 rfl ?_
                          refine G_iload_n (pc := 142) 1 1 dX7_send_142 rfl rfl ?_
                          refine G_iconst (pc := 143) dX7_send_143 ?_
                          refine G_imul (pc := 144) dX7_send_144 ?_
                          refine G_iload (pc := 145) 8 dX7_send_145 rfl ?_
                          refine G_iadd (pc := 147) dX7_send_147 ?_
                          refine G_iald (pc := 148) dX7_send_148 mg_48 ⟨by omega, by omega, by omega, by omega⟩ ?_
                          have hb148 := hVS2_114.b48 ((t * 4) + j)
                          refine G_aload_n (pc := 149) 0 0 dX7_send_149 rfl rfl ?_
                          refine G_getf (pc := 150) fl_X7_26 dX7_send_150 mg_40 rfl ?_
                          refine G_iload_n (pc := 153) 1 1 dX7_send_153 rfl rfl ?_
                          refine G_iconst (pc := 154) dX7_send_154 ?_
                          refine G_imul (pc := 155) dX7_send_155 ?_
                          refine G_iload (pc := 156) 7 dX7_send_156 rfl ?_
                          refine G_iadd (pc := 158) dX7_send_158 ?_
                          refine G_iald (pc := 159) dX7_send_159 mg_48 ⟨by omega, by omega, by omega, by omega⟩ ?_
                          have hb159 := hVS2_114.b48 ((t * 4) + q)
                          refine G_icmp_ge (pc := 160) 167 dX7_send_160 (by decide) (by first | exact hS _ _ | exact hT _ _ | exact ⟨by omega, by omega⟩ | assumption | exact zWM.r (by assumption) _ _ (by decide)) (by first | exact hS _ _ | exact hT _ _ | exact ⟨by omega, by omega⟩ | assumption | exact zWM.r (by assumption) _ _ (by decide)) (fun c160 => ?_) (fun c160 => ?_)
                          · refine G_iinc_e (pc := 167) 8 (fun zw => [(8, .int (zI zw)), (0, .ref (ad (40, 0, 0, 0))), (1, .int (zI t)), (2, .int (zI x)), (3, .int (zI u)), (4, .int (zI k)), (5, .int (zI v)), (6, .int (zI v69)), (7, .int (zI q))]) dX7_send_167 rfl (by decide) (fun _ => rfl) (fun v167 e167 => ?_)
                            refine G_goto (pc := 170) 127 dX7_send_170 (by decide) ?_
                            refine G_perm (lv' := [(0, .ref (ad (40, 0, 0, 0))), (1, .int (zI t)), (2, .int (zI x)), (3, .int (zI u)), (4, .int (zI k)), (5, .int (zI v)), (6, .int (zI v69)), (7, .int (zI q)), (8, .int (zI v167))]) [1, 2, 3, 4, 5, 6, 7, 8, 0] rfl ?_
                            exact ih127 q v167  ⟨by omega, by rw [e167, ← hi127.2, lp_step (a := j) (n := Q 1 t 0) (by omega)]; first | rw [show zpf Q t j q = v165 by rw [e165]; exact if_pos (by omega)] | rw [show zpf Q t j q = q from if_neg (by omega)]⟩ (by omega)
                          · refine G_iload (pc := 163) 8 dX7_send_163 rfl ?_
                            refine G_istore_e (pc := 165) (fun zw => [(7, .int (zI zw)), (0, .ref (ad (40, 0, 0, 0))), (1, .int (zI t)), (2, .int (zI x)), (3, .int (zI u)), (4, .int (zI k)), (5, .int (zI v)), (6, .int (zI v69)), (8, .int (zI j))]) dX7_send_165 (by decide) (fun _ => rfl) (fun v165 e165 => ?_)
                            refine G_iinc_e (pc := 167) 8 (fun zw => [(8, .int (zI zw)), (7, .int (zI v165)), (0, .ref (ad (40, 0, 0, 0))), (1, .int (zI t)), (2, .int (zI x)), (3, .int (zI u)), (4, .int (zI k)), (5, .int (zI v)), (6, .int (zI v69))]) dX7_send_167 rfl (by decide) (fun _ => rfl) (fun v167 e167 => ?_)
                            refine G_goto (pc := 170) 127 dX7_send_170 (by decide) ?_
                            refine G_perm (lv' := [(0, .ref (ad (40, 0, 0, 0))), (1, .int (zI t)), (2, .int (zI x)), (3, .int (zI u)), (4, .int (zI k)), (5, .int (zI v)), (6, .int (zI v69)), (7, .int (zI v165)), (8, .int (zI v167))]) [2, 3, 4, 5, 6, 7, 8, 1, 0] rfl ?_
                            exact ih127 v165 v167  ⟨by omega, by rw [e167, ← hi127.2, lp_step (a := j) (n := Q 1 t 0) (by omega)]; first | rw [show zpf Q t j q = v165 by rw [e165]; exact if_pos (by omega)] | rw [show zpf Q t j q = q from if_neg (by omega)]⟩ (by omega)
                    refine G_perm (lv' := [(0, .ref (ad (40, 0, 0, 0))), (1, .int (zI t)), (2, .int (zI x)), (3, .int (zI u)), (4, .int (zI k)), (5, .int (zI v)), (6, .int (zI v69)), (7, .int (zI v116)), (8, .int (zI v125))]) [3, 4, 5, 6, 7, 8, 2, 1, 0] rfl ?_
                    exact L127 _ v116 v125  ⟨by omega, by rw [e116, e125]⟩ (Nat.lt_succ_self _)
                · exfalso
                  omega
            · exfalso
              omega
          · exfalso
            omega
    · exfalso
      omega
