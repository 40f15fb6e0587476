set_option maxHeartbeats 4000000 in
set_option maxRecDepth 100000 in
theorem c_X7_thrown {l : Launch} {Δ : zDl} {ad : zK → Nat} {P : zP} {S : zS} {X : zMem} {Q : zP}  (hV : zWM Q S) : zMn l Δ yX7_thrown cX7_thrown 1 (some .int) 1 0 0 [.ref (ad (40, 0, 0, 0))] ad (mm Δ ad P S X) (zD (some (.int (zI (S (40, 0, 0, 0) 0)))) ad (mm Δ ad P S X)) := by
  refine zMn_of (by decide) (Nat.le_of_ble_eq_true rfl) (fun Γ hl hΔ hF => ?_)
  subst hl hΔ
  show G Γ _ _ _ RX7 _ _ _ _ _ [(0, .ref (ad (40, 0, 0, 0)))] []
  have hq := hV.q
  refine G_aload_n (pc := 0) 0 0 dX7_thrown_0 rfl rfl ?_
  refine G_getf (pc := 1) fl_X7_93 dX7_thrown_1 mg_40 rfl ?_
  exact G_iret_d (pc := 4) hF dX7_thrown_4 ⟨Nat.le_of_ble_eq_true rfl, Nat.le_of_ble_eq_true rfl⟩ (by first | rfl | omega | simp_all)
set_option maxHeartbeats 4000000 in
set_option maxRecDepth 100000 in
theorem c_X7_no {l : Launch} {Δ : zDl} {ad : zK → Nat} {P : zP} {S : zS} {X : zMem} {Q : zP} {x : Int} (hV : zWM Q S) (hx : zR x) : zMn l Δ yX7_no cX7_no 2 (some .int) 1 0 0 [.ref (ad (40, 0, 0, 0)), .int (zI x)] ad (mm Δ ad P S X) (zD (some (.int (zI 0))) ad (mm Δ ad P (zst S (40, 0, 0, 0) 0 x) X)) := by
  refine zMn_of (by decide) (Nat.le_of_ble_eq_true rfl) (fun Γ hl hΔ hF => ?_)
  subst hl hΔ
  show G Γ _ _ _ RX7 _ _ _ _ _ [(0, .ref (ad (40, 0, 0, 0))), (1, .int (zI x))] []
  have hq := hV.q
  refine G_aload_n (pc := 0) 0 0 dX7_no_0 rfl rfl ?_
  refine G_iload_n (pc := 1) 1 1 dX7_no_1 rfl rfl ?_
  refine G_putf (pc := 2) fl_X7_93 fp_X7_0 dX7_no_2 mg_40 (Nat.le_of_ble_eq_true rfl) rfl rfl (mp_40_0 _) ?_
  refine G_name (fun S1_2 hS1_2 => ?_)
  have hVS1_2 : zWM Q S1_2 := by rw [hS1_2]; exact hV.s40_0 (by first | assumption | exact ⟨by omega, by omega⟩)
  refine G_iconst (pc := 5) dX7_no_5 ?_
  exact G_iret_m (pc := 6) hF dX7_no_6 ⟨Nat.le_of_ble_eq_true rfl, Nat.le_of_ble_eq_true rfl⟩ (by first | rfl | omega | simp_all) (by rw [hS1_2])
set_option maxHeartbeats 4000000 in
set_option maxRecDepth 100000 in
theorem c_X7_isNot {l : Launch} {Δ : zDl} {ad : zK → Nat} {P : zP} {S : zS} {X : zMem} {Q : zP} {x : Int} (hV : zWM Q S) (hx : zR x) : zMn l Δ yX7_isNot cX7_isNot 2 (some .boolean) 1 0 0 [.ref (ad (40, 0, 0, 0)), .int (zI x)] ad (mm Δ ad P S X) (zD (some (.int (zI 0))) ad (mm Δ ad P (zst S (40, 0, 0, 0) 0 x) X)) := by
  refine zMn_of (by decide) (Nat.le_of_ble_eq_true rfl) (fun Γ hl hΔ hF => ?_)
  subst hl hΔ
  show G Γ _ _ _ RX7 _ _ _ _ _ [(0, .ref (ad (40, 0, 0, 0))), (1, .int (zI x))] []
  have hq := hV.q
  refine G_aload_n (pc := 0) 0 0 dX7_isNot_0 rfl rfl ?_
  refine G_iload_n (pc := 1) 1 1 dX7_isNot_1 rfl rfl ?_
  refine G_putf (pc := 2) fl_X7_93 fp_X7_0 dX7_isNot_2 mg_40 (Nat.le_of_ble_eq_true rfl) rfl rfl (mp_40_0 _) ?_
  refine G_name (fun S1_2 hS1_2 => ?_)
  have hVS1_2 : zWM Q S1_2 := by rw [hS1_2]; exact hV.s40_0 (by first | assumption | exact ⟨by omega, by omega⟩)
  refine G_iconst (pc := 5) dX7_isNot_5 ?_
  exact G_zret_m (pc := 6) hF dX7_isNot_6 ⟨Nat.le_of_ble_eq_true rfl, Nat.le_of_ble_eq_true rfl⟩ (by first | exact zb_ite | omega) rfl (by rw [hS1_2])
set_option maxHeartbeats 4000000 in
set_option maxRecDepth 100000 in
theorem c_X7_ok {l : Launch} {Δ : zDl} {ad : zK → Nat} {P : zP} {S : zS} {X : zMem} {Q : zP} {x : Int} (hV : zWM Q S) : zMn l Δ yX7_ok cX7_ok 2 (some .int) 1 0 0 [.ref (ad (40, 0, 0, 0)), .int (zI x)] ad (mm Δ ad P S X) (zD (some (.int (zI x))) ad (mm Δ ad P (zst S (40, 0, 0, 0) 0 0) X)) := by
  refine zMn_of (by decide) (Nat.le_of_ble_eq_true rfl) (fun Γ hl hΔ hF => ?_)
  subst hl hΔ
  show G Γ _ _ _ RX7 _ _ _ _ _ [(0, .ref (ad (40, 0, 0, 0))), (1, .int (zI x))] []
  have hq := hV.q
  refine G_aload_n (pc := 0) 0 0 dX7_ok_0 rfl rfl ?_
  refine G_iconst (pc := 1) dX7_ok_1 ?_
  refine G_putf (pc := 2) fl_X7_93 fp_X7_0 dX7_ok_2 mg_40 (Nat.le_of_ble_eq_true rfl) rfl rfl (mp_40_0 _) ?_
  refine G_name (fun S1_2 hS1_2 => ?_)
  have hVS1_2 : zWM Q S1_2 := by rw [hS1_2]; exact hV.s40_0 (by first | assumption | exact ⟨by omega, by omega⟩)
  refine G_iload_n (pc := 5) 1 1 dX7_ok_5 rfl rfl ?_
  exact G_iret_m (pc := 6) hF dX7_ok_6 ⟨Nat.le_of_ble_eq_true rfl, Nat.le_of_ble_eq_true rfl⟩ (by first | rfl | omega | simp_all) (by rw [hS1_2])
set_option maxHeartbeats 4000000 in
set_option maxRecDepth 100000 in
theorem c_X7_isWithin {l : Launch} {Δ : zDl} {ad : zK → Nat} {P : zP} {S : zS} {X : zMem} {x a b : Int} (hx : zR x) (ha : zR a) (hb : zR b) : zMn l Δ yX7_isWithin cX7_isWithin 3 (some .boolean) 1 0 0 [.int (zI x), .int (zI a), .int (zI b)] ad (mm Δ ad P S X) (zD (some (.int (zI (if a ≤ x ∧ x ≤ b then 1 else 0)))) ad (mm Δ ad P S X)) := by
  refine zMn_of (by decide) (Nat.le_of_ble_eq_true rfl) (fun Γ hl hΔ hF => ?_)
  subst hl hΔ
  show G Γ _ _ _ RX7 _ _ _ _ _ [(0, .int (zI x)), (1, .int (zI a)), (2, .int (zI b))] []
  refine G_iload_n (pc := 0) 0 0 dX7_isWithin_0 rfl rfl ?_
  refine G_iload_n (pc := 1) 1 1 dX7_isWithin_1 rfl rfl ?_
  refine G_icmp_lt (pc := 2) 14 dX7_isWithin_2 (by decide) (by first | exact hS _ _ | exact hT _ _ | exact ⟨by omega, by omega⟩ | assumption | exact zWM.r (by assumption) _ _ (by decide) | assumption) (by first | exact hS _ _ | exact hT _ _ | exact ⟨by omega, by omega⟩ | assumption | exact zWM.r (by assumption) _ _ (by decide) | assumption) (fun c2 => ?_) (fun c2 => ?_)
  · refine G_iconst (pc := 14) dX7_isWithin_14 ?_
    exact G_zret_d (pc := 15) hF dX7_isWithin_15 ⟨Nat.le_of_ble_eq_true rfl, Nat.le_of_ble_eq_true rfl⟩ (by first | exact zb_ite | omega) (by first | exact (if_pos (by first | assumption | omega)).symm | exact (if_neg (by first | assumption | omega)).symm | rfl | omega)
  · refine G_iload_n (pc := 5) 0 0 dX7_isWithin_5 rfl rfl ?_
    refine G_iload_n (pc := 6) 2 2 dX7_isWithin_6 rfl rfl ?_
    refine G_icmp_gt (pc := 7) 14 dX7_isWithin_7 (by decide) (by first | exact hS _ _ | exact hT _ _ | exact ⟨by omega, by omega⟩ | assumption | exact zWM.r (by assumption) _ _ (by decide) | assumption) (by first | exact hS _ _ | exact hT _ _ | exact ⟨by omega, by omega⟩ | assumption | exact zWM.r (by assumption) _ _ (by decide) | assumption) (fun c7 => ?_) (fun c7 => ?_)
    · refine G_iconst (pc := 14) dX7_isWithin_14 ?_
      exact G_zret_d (pc := 15) hF dX7_isWithin_15 ⟨Nat.le_of_ble_eq_true rfl, Nat.le_of_ble_eq_true rfl⟩ (by first | exact zb_ite | omega) (by first | exact (if_pos (by first | assumption | omega)).symm | exact (if_neg (by first | assumption | omega)).symm | rfl | omega)
    · refine G_iconst (pc := 10) dX7_isWithin_10 ?_
      refine G_goto (pc := 11) 15 dX7_isWithin_11 (by decide) ?_
      exact G_zret_d (pc := 15) hF dX7_isWithin_15 ⟨Nat.le_of_ble_eq_true rfl, Nat.le_of_ble_eq_true rfl⟩ (by first | exact zb_ite | omega) (by first | exact (if_pos (by first | assumption | omega)).symm | exact (if_neg (by first | assumption | omega)).symm | rfl | omega)
set_option maxHeartbeats 4000000 in
set_option maxRecDepth 100000 in
theorem c_X7_isTopic {l : Launch} {Δ : zDl} {ad : zK → Nat} {P : zP} {S : zS} {X : zMem} {Q : zP} {x : Int} (hV : zWM Q S) (hx : zR x) : zMn l Δ yX7_isTopic cX7_isTopic 2 (some .boolean) 2 0 0 [.ref (ad (40, 0, 0, 0)), .int (zI x)] ad (mm Δ ad P S X) (zD (some (.int (zI (if 0 ≤ x ∧ x ≤ S (40, 0, 0, 0) 4 - 1 then 1 else 0)))) ad (mm Δ ad P S X)) := by
  refine zMn_of (by decide) (Nat.le_of_ble_eq_true rfl) (fun Γ hl hΔ hF => ?_)
  subst hl hΔ
  show G Γ _ _ _ RX7 _ _ _ _ _ [(0, .ref (ad (40, 0, 0, 0))), (1, .int (zI x))] []
  have hq := hV.q
  have h4 := hV.t4
  refine G_iload_n (pc := 0) 1 1 dX7_isTopic_0 rfl rfl ?_
  refine G_iconst (pc := 1) dX7_isTopic_1 ?_
  refine G_aload_n (pc := 2) 0 0 dX7_isTopic_2 rfl rfl ?_
  refine G_getf (pc := 3) fl_X7_96 dX7_isTopic_3 mg_40 rfl ?_
  refine G_iconst (pc := 6) dX7_isTopic_6 ?_
  refine G_isub (pc := 7) dX7_isTopic_7 ?_
  refine G_callSd (pc := 8) gk_X7_99 dX7_isTopic_8 (c_X7_isWithin (by first | assumption | omega | exact ⟨by omega, by omega⟩ | exact hS _ _ | exact hT _ _) (by first | assumption | omega | exact ⟨by omega, by omega⟩ | exact hS _ _ | exact hT _ _) (by first | assumption | omega | exact ⟨by omega, by omega⟩ | exact hS _ _ | exact hT _ _)) rfl rfl (Nat.le_of_ble_eq_true rfl) ⟨⟨Nat.le_of_ble_eq_true rfl, Nat.le_of_ble_eq_true rfl⟩, Nat.le_of_ble_eq_true rfl, Nat.le_of_ble_eq_true rfl⟩ ?_
  exact G_zret_d (pc := 11) hF dX7_isTopic_11 ⟨Nat.le_of_ble_eq_true rfl, Nat.le_of_ble_eq_true rfl⟩ (by first | exact zb_ite | omega) rfl
set_option maxHeartbeats 4000000 in
set_option maxRecDepth 100000 in
theorem c_X7_isGroup {l : Launch} {Δ : zDl} {ad : zK → Nat} {P : zP} {S : zS} {X : zMem} {Q : zP} {x : Int} (hV : zWM Q S) (hx : zR x) : zMn l Δ yX7_isGroup cX7_isGroup 2 (some .boolean) 2 0 0 [.ref (ad (40, 0, 0, 0)), .int (zI x)] ad (mm Δ ad P S X) (zD (some (.int (zI (if 0 ≤ x ∧ x ≤ S (40, 0, 0, 0) 23 - 1 then 1 else 0)))) ad (mm Δ ad P S X)) := by
  refine zMn_of (by decide) (Nat.le_of_ble_eq_true rfl) (fun Γ hl hΔ hF => ?_)
  subst hl hΔ
  show G Γ _ _ _ RX7 _ _ _ _ _ [(0, .ref (ad (40, 0, 0, 0))), (1, .int (zI x))] []
  have hq := hV.q
  have h4 := hV.g23
  refine G_iload_n (pc := 0) 1 1 dX7_isGroup_0 rfl rfl ?_
  refine G_iconst (pc := 1) dX7_isGroup_1 ?_
  refine G_aload_n (pc := 2) 0 0 dX7_isGroup_2 rfl rfl ?_
  refine G_getf (pc := 3) fl_X7_107 dX7_isGroup_3 mg_40 rfl ?_
  refine G_iconst (pc := 6) dX7_isGroup_6 ?_
  refine G_isub (pc := 7) dX7_isGroup_7 ?_
  refine G_callSd (pc := 8) gk_X7_99 dX7_isGroup_8 (c_X7_isWithin (by first | assumption | omega | exact ⟨by omega, by omega⟩ | exact hS _ _ | exact hT _ _) (by first | assumption | omega | exact ⟨by omega, by omega⟩ | exact hS _ _ | exact hT _ _) (by first | assumption | omega | exact ⟨by omega, by omega⟩ | exact hS _ _ | exact hT _ _)) rfl rfl (Nat.le_of_ble_eq_true rfl) ⟨⟨Nat.le_of_ble_eq_true rfl, Nat.le_of_ble_eq_true rfl⟩, Nat.le_of_ble_eq_true rfl, Nat.le_of_ble_eq_true rfl⟩ ?_
  exact G_zret_d (pc := 11) hF dX7_isGroup_11 ⟨Nat.le_of_ble_eq_true rfl, Nat.le_of_ble_eq_true rfl⟩ (by first | exact zb_ite | omega) rfl
set_option maxHeartbeats 4000000 in
set_option maxRecDepth 100000 in
theorem c_X7_isReader {l : Launch} {Δ : zDl} {ad : zK → Nat} {P : zP} {S : zS} {X : zMem} {x : Int} (hx : zR x) : zMn l Δ yX7_isReader cX7_isReader 1 (some .boolean) 2 0 0 [.int (zI x)] ad (mm Δ ad P S X) (zD (some (.int (zI (if 0 ≤ x ∧ x ≤ 5 then 1 else 0)))) ad (mm Δ ad P S X)) := by
  refine zMn_of (by decide) (Nat.le_of_ble_eq_true rfl) (fun Γ hl hΔ hF => ?_)
  subst hl hΔ
  show G Γ _ _ _ RX7 _ _ _ _ _ [(0, .int (zI x))] []
  refine G_iload_n (pc := 0) 0 0 dX7_isReader_0 rfl rfl ?_
  refine G_iconst (pc := 1) dX7_isReader_1 ?_
  refine G_iconst (pc := 2) dX7_isReader_2 ?_
  refine G_callSd (pc := 3) gk_X7_99 dX7_isReader_3 (c_X7_isWithin (by first | assumption | omega | exact ⟨by omega, by omega⟩ | exact hS _ _ | exact hT _ _) (by first | assumption | omega | exact ⟨by omega, by omega⟩ | exact hS _ _ | exact hT _ _) (by first | assumption | omega | exact ⟨by omega, by omega⟩ | exact hS _ _ | exact hT _ _)) rfl rfl (Nat.le_of_ble_eq_true rfl) ⟨⟨Nat.le_of_ble_eq_true rfl, Nat.le_of_ble_eq_true rfl⟩, Nat.le_of_ble_eq_true rfl, Nat.le_of_ble_eq_true rfl⟩ ?_
  exact G_zret_d (pc := 6) hF dX7_isReader_6 ⟨Nat.le_of_ble_eq_true rfl, Nat.le_of_ble_eq_true rfl⟩ (by first | exact zb_ite | omega) rfl
set_option maxHeartbeats 4000000 in
set_option maxRecDepth 100000 in
theorem c_X7_isProducer {l : Launch} {Δ : zDl} {ad : zK → Nat} {P : zP} {S : zS} {X : zMem} {x : Int} (hx : zR x) : zMn l Δ yX7_isProducer cX7_isProducer 1 (some .boolean) 2 0 0 [.int (zI x)] ad (mm Δ ad P S X) (zD (some (.int (zI (if 0 ≤ x ∧ x ≤ 3 then 1 else 0)))) ad (mm Δ ad P S X)) := by
  refine zMn_of (by decide) (Nat.le_of_ble_eq_true rfl) (fun Γ hl hΔ hF => ?_)
  subst hl hΔ
  show G Γ _ _ _ RX7 _ _ _ _ _ [(0, .int (zI x))] []
  refine G_iload_n (pc := 0) 0 0 dX7_isProducer_0 rfl rfl ?_
  refine G_iconst (pc := 1) dX7_isProducer_1 ?_
  refine G_iconst (pc := 2) dX7_isProducer_2 ?_
  refine G_callSd (pc := 3) gk_X7_99 dX7_isProducer_3 (c_X7_isWithin (by first | assumption | omega | exact ⟨by omega, by omega⟩ | exact hS _ _ | exact hT _ _) (by first | assumption | omega | exact ⟨by omega, by omega⟩ | exact hS _ _ | exact hT _ _) (by first | assumption | omega | exact ⟨by omega, by omega⟩ | exact hS _ _ | exact hT _ _)) rfl rfl (Nat.le_of_ble_eq_true rfl) ⟨⟨Nat.le_of_ble_eq_true rfl, Nat.le_of_ble_eq_true rfl⟩, Nat.le_of_ble_eq_true rfl, Nat.le_of_ble_eq_true rfl⟩ ?_
  exact G_zret_d (pc := 6) hF dX7_isProducer_6 ⟨Nat.le_of_ble_eq_true rfl, Nat.le_of_ble_eq_true rfl⟩ (by first | exact zb_ite | omega) rfl
set_option maxHeartbeats 4000000 in
set_option maxRecDepth 100000 in
theorem c_X7_isPartition {l : Launch} {Δ : zDl} {ad : zK → Nat} {P : zP} {S : zS} {X : zMem} {Q : zP} {t p : Int} (hV : zWM Q S) (hx : zR t) (hy : zR p) : zMn l Δ yX7_isPartition cX7_isPartition 3 (some .boolean) 3 0 0 [.ref (ad (40, 0, 0, 0)), .int (zI t), .int (zI p)] ad (mm Δ ad P S X) (zD (some (.int (zI (if (0 ≤ t ∧ t < Q 0 0 0) ∧ (0 ≤ p ∧ p < Q 1 t 0) then 1 else 0)))) ad (mm Δ ad P S X)) := by
  refine zMn_of (by decide) (Nat.le_of_ble_eq_true rfl) (fun Γ hl hΔ hF => ?_)
  subst hl hΔ
  show G Γ _ _ _ RX7 _ _ _ _ _ [(0, .ref (ad (40, 0, 0, 0))), (1, .int (zI t)), (2, .int (zI p))] []
  have hq := hV.q
  have h4 := hV.t4
  refine G_aload_n (pc := 0) 0 0 dX7_isPartition_0 rfl rfl ?_
  refine G_iload_n (pc := 1) 1 1 dX7_isPartition_1 rfl rfl ?_
  refine G_callVd (pc := 2) gk_X7_103 dX7_isPartition_2 mg_40 rfl (c_X7_isTopic (Q := Q) (by first | assumption | omega | exact ⟨by omega, by omega⟩ | exact hS _ _ | exact hT _ _) (by first | assumption | omega | exact ⟨by omega, by omega⟩ | exact hS _ _ | exact hT _ _)) rfl rfl (Nat.le_of_ble_eq_true rfl) ⟨⟨Nat.le_of_ble_eq_true rfl, Nat.le_of_ble_eq_true rfl⟩, Nat.le_of_ble_eq_true rfl, Nat.le_of_ble_eq_true rfl⟩ ?_
  refine G_if_eq_b (pc := 5) 28 dX7_isPartition_5 (by decide) (fun c5 => ?_) (fun c5 => ?_)
  · refine G_iconst (pc := 28) dX7_isPartition_28 ?_
    exact G_zret_d (pc := 29) hF dX7_isPartition_29 ⟨Nat.le_of_ble_eq_true rfl, Nat.le_of_ble_eq_true rfl⟩ (by first | exact zb_ite | omega) (by first | exact (if_pos (by omega)).symm | exact (if_neg (fun h => by omega)).symm)
  · have ht : 0 ≤ t ∧ t < Q 0 0 0 := by omega
    have hqt := hV.qt ht
    have hpn := hV.pn ht
    refine G_iload_n (pc := 8) 2 2 dX7_isPartition_8 rfl rfl ?_
    refine G_iconst (pc := 9) dX7_isPartition_9 ?_
    refine G_aload_n (pc := 10) 0 0 dX7_isPartition_10 rfl rfl ?_
    refine G_getf (pc := 11) fl_X7_16 dX7_isPartition_11 mg_40 rfl ?_
    refine G_iload_n (pc := 14) 1 1 dX7_isPartition_14 rfl rfl ?_
    refine G_iald (pc := 15) dX7_isPartition_15 mg_45 ⟨by omega, by omega, by omega, by omega⟩ ?_
    have hb15 := hV.b45 (t)
    refine G_iconst (pc := 16) dX7_isPartition_16 ?_
    refine G_isub (pc := 17) dX7_isPartition_17 ?_
    refine G_callSd (pc := 18) gk_X7_99 dX7_isPartition_18 (c_X7_isWithin (by first | assumption | omega | exact ⟨by omega, by omega⟩ | exact hS _ _ | exact hT _ _) (by first | assumption | omega | exact ⟨by omega, by omega⟩ | exact hS _ _ | exact hT _ _) (by first | assumption | omega | exact ⟨by omega, by omega⟩ | exact hS _ _ | exact hT _ _)) rfl rfl (Nat.le_of_ble_eq_true rfl) ⟨⟨Nat.le_of_ble_eq_true rfl, Nat.le_of_ble_eq_true rfl⟩, Nat.le_of_ble_eq_true rfl, Nat.le_of_ble_eq_true rfl⟩ ?_
    refine G_if_eq_b (pc := 21) 28 dX7_isPartition_21 (by decide) (fun c21 => ?_) (fun c21 => ?_)
    · refine G_iconst (pc := 28) dX7_isPartition_28 ?_
      exact G_zret_d (pc := 29) hF dX7_isPartition_29 ⟨Nat.le_of_ble_eq_true rfl, Nat.le_of_ble_eq_true rfl⟩ (by first | exact zb_ite | omega) (by first | exact (if_pos (by omega)).symm | exact (if_neg (fun h => by omega)).symm)
    · refine G_iconst (pc := 24) dX7_isPartition_24 ?_
      refine G_goto (pc := 25) 29 dX7_isPartition_25 (by decide) ?_
      exact G_zret_d (pc := 29) hF dX7_isPartition_29 ⟨Nat.le_of_ble_eq_true rfl, Nat.le_of_ble_eq_true rfl⟩ (by first | exact zb_ite | omega) (by first | exact (if_pos (by omega)).symm | exact (if_neg (fun h => by omega)).symm)
set_option maxHeartbeats 4000000 in
set_option maxRecDepth 100000 in
theorem c_X7_isShare {l : Launch} {Δ : zDl} {ad : zK → Nat} {P : zP} {S : zS} {X : zMem} {Q : zP} {g p : Int} (hV : zWM Q S) (hx : zR g) (hy : zR p) : zMn l Δ yX7_isShare cX7_isShare 3 (some .boolean) 3 0 0 [.ref (ad (40, 0, 0, 0)), .int (zI g), .int (zI p)] ad (mm Δ ad P S X) (zD (some (.int (zI (if (0 ≤ g ∧ g < Q 3 0 0) ∧ (0 ≤ p ∧ p < Q 1 (Q 4 g 0) 0) then 1 else 0)))) ad (mm Δ ad P S X)) := by
  refine zMn_of (by decide) (Nat.le_of_ble_eq_true rfl) (fun Γ hl hΔ hF => ?_)
  subst hl hΔ
  show G Γ _ _ _ RX7 _ _ _ _ _ [(0, .ref (ad (40, 0, 0, 0))), (1, .int (zI g)), (2, .int (zI p))] []
  have hq := hV.q
  have h4 := hV.g23
  refine G_aload_n (pc := 0) 0 0 dX7_isShare_0 rfl rfl ?_
  refine G_iload_n (pc := 1) 1 1 dX7_isShare_1 rfl rfl ?_
  refine G_callVd (pc := 2) gk_X7_110 dX7_isShare_2 mg_40 rfl (c_X7_isGroup (Q := Q) (by first | assumption | omega | exact ⟨by omega, by omega⟩ | exact hS _ _ | exact hT _ _) (by first | assumption | omega | exact ⟨by omega, by omega⟩ | exact hS _ _ | exact hT _ _)) rfl rfl (Nat.le_of_ble_eq_true rfl) ⟨⟨Nat.le_of_ble_eq_true rfl, Nat.le_of_ble_eq_true rfl⟩, Nat.le_of_ble_eq_true rfl, Nat.le_of_ble_eq_true rfl⟩ ?_
  refine G_if_eq_b (pc := 5) 33 dX7_isShare_5 (by decide) (fun c5 => ?_) (fun c5 => ?_)
  · refine G_iconst (pc := 33) dX7_isShare_33 ?_
    exact G_zret_d (pc := 34) hF dX7_isShare_34 ⟨Nat.le_of_ble_eq_true rfl, Nat.le_of_ble_eq_true rfl⟩ (by first | exact zb_ite | omega) (by first | exact (if_pos (by omega)).symm | exact (if_neg (fun h => by omega)).symm)
  · have hg : 0 ≤ g ∧ g < Q 3 0 0 := by omega
    have hqg := hV.qg hg
    have hqt := hV.qt hqg
    have hgt := hV.gt hg
    have hgn := hV.gn hg
    refine G_iload_n (pc := 8) 2 2 dX7_isShare_8 rfl rfl ?_
    refine G_iconst (pc := 9) dX7_isShare_9 ?_
    refine G_aload_n (pc := 10) 0 0 dX7_isShare_10 rfl rfl ?_
    refine G_getf (pc := 11) fl_X7_16 dX7_isShare_11 mg_40 rfl ?_
    refine G_aload_n (pc := 14) 0 0 dX7_isShare_14 rfl rfl ?_
    refine G_getf (pc := 15) fl_X7_66 dX7_isShare_15 mg_40 rfl ?_
    refine G_iload_n (pc := 18) 1 1 dX7_isShare_18 rfl rfl ?_
    refine G_iald (pc := 19) dX7_isShare_19 mg_64 ⟨by omega, by omega, by omega, by omega⟩ ?_
    have hb19 := hV.b64 (g)
    refine G_iald (pc := 20) dX7_isShare_20 mg_45 ⟨by omega, by omega, by omega, by omega⟩ ?_
    have hb20 := hV.b45 (S (64, 0, 0, 0) g)
    refine G_iconst (pc := 21) dX7_isShare_21 ?_
    refine G_isub (pc := 22) dX7_isShare_22 ?_
    refine G_callSd (pc := 23) gk_X7_99 dX7_isShare_23 (c_X7_isWithin (by first | assumption | omega | exact ⟨by omega, by omega⟩ | exact hS _ _ | exact hT _ _) (by first | assumption | omega | exact ⟨by omega, by omega⟩ | exact hS _ _ | exact hT _ _) (by first | assumption | omega | exact ⟨by omega, by omega⟩ | exact hS _ _ | exact hT _ _)) rfl rfl (Nat.le_of_ble_eq_true rfl) ⟨⟨Nat.le_of_ble_eq_true rfl, Nat.le_of_ble_eq_true rfl⟩, Nat.le_of_ble_eq_true rfl, Nat.le_of_ble_eq_true rfl⟩ ?_
    refine G_if_eq_b (pc := 26) 33 dX7_isShare_26 (by decide) (fun c26 => ?_) (fun c26 => ?_)
    · refine G_iconst (pc := 33) dX7_isShare_33 ?_
      exact G_zret_d (pc := 34) hF dX7_isShare_34 ⟨Nat.le_of_ble_eq_true rfl, Nat.le_of_ble_eq_true rfl⟩ (by first | exact zb_ite | omega) (by first | exact (if_pos (by omega)).symm | exact (if_neg (fun h => by omega)).symm)
    · refine G_iconst (pc := 29) dX7_isShare_29 ?_
      refine G_goto (pc := 30) 34 dX7_isShare_30 (by decide) ?_
      exact G_zret_d (pc := 34) hF dX7_isShare_34 ⟨Nat.le_of_ble_eq_true rfl, Nat.le_of_ble_eq_true rfl⟩ (by first | exact zb_ite | omega) (by first | exact (if_pos (by omega)).symm | exact (if_neg (fun h => by omega)).symm)
set_option maxHeartbeats 4000000 in
set_option maxRecDepth 100000 in
theorem c_X7_messageAt {l : Launch} {Δ : zDl} {ad : zK → Nat} {P : zP} {S : zS} {X : zMem} {Q : zP} {w o : Int} (hV : zWM Q S) (hw : 0 ≤ w ∧ w < 16) (ho : 0 ≤ o ∧ o < 80) : zMn l Δ yX7_messageAt cX7_messageAt 3 (some .int) 1 0 0 [.ref (ad (40, 0, 0, 0)), .int (zI w), .int (zI o)] ad (mm Δ ad P S X) (zD (some (.int (zI (S (59, 0, 0, 0) (w * 80 + o))))) ad (mm Δ ad P S X)) := by
  refine zMn_of (by decide) (Nat.le_of_ble_eq_true rfl) (fun Γ hl hΔ hF => ?_)
  subst hl hΔ
  show G Γ _ _ _ RX7 _ _ _ _ _ [(0, .ref (ad (40, 0, 0, 0))), (1, .int (zI w)), (2, .int (zI o))] []
  have hq := hV.q
  refine G_aload_n (pc := 0) 0 0 dX7_messageAt_0 rfl rfl ?_
  refine G_getf (pc := 1) fl_X7_57 dX7_messageAt_1 mg_40 rfl ?_
  refine G_iload_n (pc := 4) 1 1 dX7_messageAt_4 rfl rfl ?_
  refine G_bipush (pc := 5) dX7_messageAt_5 (by decide) ?_
  refine G_imul (pc := 7) dX7_messageAt_7 ?_
  refine G_iload_n (pc := 8) 2 2 dX7_messageAt_8 rfl rfl ?_
  refine G_iadd (pc := 9) dX7_messageAt_9 ?_
  refine G_iald (pc := 10) dX7_messageAt_10 mg_59 ⟨by omega, by omega, by omega, by omega⟩ ?_
  have hb10 := hV.b59 ((w * 80) + o)
  exact G_iret_d (pc := 11) hF dX7_messageAt_11 ⟨Nat.le_of_ble_eq_true rfl, Nat.le_of_ble_eq_true rfl⟩ (by first | rfl | omega | simp_all)
set_option maxHeartbeats 4000000 in
set_option maxRecDepth 100000 in
theorem c_X7_whereOf {l : Launch} {Δ : zDl} {ad : zK → Nat} {P : zP} {S : zS} {X : zMem} {Q : zP} {g p : Int} (hV : zWM Q S) (hg : 0 ≤ g ∧ g < Q 3 0 0) : zMn l Δ yX7_whereOf cX7_whereOf 3 (some .int) 1 0 0 [.ref (ad (40, 0, 0, 0)), .int (zI g), .int (zI p)] ad (mm Δ ad P S X) (zD (some (.int (zI (Q 4 g 0 * 4 + p)))) ad (mm Δ ad P S X)) := by
  refine zMn_of (by decide) (Nat.le_of_ble_eq_true rfl) (fun Γ hl hΔ hF => ?_)
  subst hl hΔ
  show G Γ _ _ _ RX7 _ _ _ _ _ [(0, .ref (ad (40, 0, 0, 0))), (1, .int (zI g)), (2, .int (zI p))] []
  have hq := hV.q
  have hqg := hV.qg hg
  have hqt := hV.qt hqg
  have hgt := hV.gt hg
  have hgn := hV.gn hg
  refine G_aload_n (pc := 0) 0 0 dX7_whereOf_0 rfl rfl ?_
  refine G_getf (pc := 1) fl_X7_66 dX7_whereOf_1 mg_40 rfl ?_
  refine G_iload_n (pc := 4) 1 1 dX7_whereOf_4 rfl rfl ?_
  refine G_iald (pc := 5) dX7_whereOf_5 mg_64 ⟨by omega, by omega, by omega, by omega⟩ ?_
  have hb5 := hV.b64 (g)
  refine G_iconst (pc := 6) dX7_whereOf_6 ?_
  refine G_imul (pc := 7) dX7_whereOf_7 ?_
  refine G_iload_n (pc := 8) 2 2 dX7_whereOf_8 rfl rfl ?_
  refine G_iadd (pc := 9) dX7_whereOf_9 ?_
  exact G_iret_d (pc := 10) hF dX7_whereOf_10 ⟨Nat.le_of_ble_eq_true rfl, Nat.le_of_ble_eq_true rfl⟩ (by rw [hgt])
set_option maxHeartbeats 4000000 in
set_option maxRecDepth 100000 in
theorem c_X7_seen {l : Launch} {Δ : zDl} {ad : zK → Nat} {P : zP} {S : zS} {X : zMem} {Q : zP} {m : Int} (hV : zWM Q S) (hm : 0 ≤ m ∧ m < 80) (h61 : Q 61 0 0 = P 61 0 0) : zMn l Δ yX7_seen cX7_seen 2 (some .int) 1 0 0 [.ref (ad (40, 0, 0, 0)), .int (zI m)] ad (mm Δ ad P S X) (zD (some (.int (zI (mS S m)))) ad (mm Δ ad P S X)) := by
  refine zMn_of (by decide) (Nat.le_of_ble_eq_true rfl) (fun Γ hl hΔ hF => ?_)
  subst hl hΔ
  show G Γ _ _ _ RX7 _ _ _ _ _ [(0, .ref (ad (40, 0, 0, 0))), (1, .int (zI m))] []
  have hq := hV.q
  refine G_aload_n (pc := 0) 0 0 dX7_seen_0 rfl rfl ?_
  refine G_getf (pc := 1) fl_X7_51 dX7_seen_1 mg_40 rfl ?_
  refine G_iload_n (pc := 4) 1 1 dX7_seen_4 rfl rfl ?_
  refine G_iald (pc := 5) dX7_seen_5 mg_57 ⟨by omega, by omega, by omega, by omega⟩ ?_
  have hb5 := hV.b57 (m)
  refine G_iconst (pc := 6) dX7_seen_6 ?_
  refine G_icmp_eq (pc := 7) 25 dX7_seen_7 (by decide) (by first | exact hS _ _ | exact hT _ _ | exact ⟨by omega, by omega⟩ | assumption | exact zWM.r (by assumption) _ _ (by decide)) (by first | exact hS _ _ | exact hT _ _ | exact ⟨by omega, by omega⟩ | assumption | exact zWM.r (by assumption) _ _ (by decide)) (fun c7 => ?_) (fun c7 => ?_)
  · refine G_iconst (pc := 25) dX7_seen_25 ?_
    exact G_iret_d (pc := 26) hF dX7_seen_26 ⟨Nat.le_of_ble_eq_true rfl, Nat.le_of_ble_eq_true rfl⟩ (by unfold mS; first | exact (if_pos (Or.inl c7)).symm | exact (if_pos (Or.inr c22)).symm | rw [if_neg (fun h => h.elim c7 c22), if_pos c39] | rw [if_neg (fun h => h.elim c7 c22), if_neg c39])
  · refine G_aload_n (pc := 10) 0 0 dX7_seen_10 rfl rfl ?_
    refine G_getf (pc := 11) fl_X7_60 dX7_seen_11 mg_40 rfl ?_
    refine G_aload_n (pc := 14) 0 0 dX7_seen_14 rfl rfl ?_
    refine G_getf (pc := 15) fl_X7_51 dX7_seen_15 mg_40 rfl ?_
    refine G_iload_n (pc := 18) 1 1 dX7_seen_18 rfl rfl ?_
    refine G_iald (pc := 19) dX7_seen_19 mg_57 ⟨by omega, by omega, by omega, by omega⟩ ?_
    have hb19 := hV.b57 (m)
    refine G_iald (pc := 20) dX7_seen_20 mg_61 ⟨by omega, by omega, by omega, by omega⟩ ?_
    refine G_iconst (pc := 21) dX7_seen_21 ?_
    refine G_icmp_ne (pc := 22) 27 dX7_seen_22 (by decide) (by first | exact hS _ _ | exact hT _ _ | exact ⟨by omega, by omega⟩ | assumption | exact zWM.r (by assumption) _ _ (by decide)) (by first | exact hS _ _ | exact hT _ _ | exact ⟨by omega, by omega⟩ | assumption | exact zWM.r (by assumption) _ _ (by decide)) (fun c22 => ?_) (fun c22 => ?_)
    · refine G_aload_n (pc := 27) 0 0 dX7_seen_27 rfl rfl ?_
      refine G_getf (pc := 28) fl_X7_60 dX7_seen_28 mg_40 rfl ?_
      refine G_aload_n (pc := 31) 0 0 dX7_seen_31 rfl rfl ?_
      refine G_getf (pc := 32) fl_X7_51 dX7_seen_32 mg_40 rfl ?_
      refine G_iload_n (pc := 35) 1 1 dX7_seen_35 rfl rfl ?_
      refine G_iald (pc := 36) dX7_seen_36 mg_57 ⟨by omega, by omega, by omega, by omega⟩ ?_
      have hb36 := hV.b57 (m)
      refine G_iald (pc := 37) dX7_seen_37 mg_61 ⟨by omega, by omega, by omega, by omega⟩ ?_
      refine G_iconst (pc := 38) dX7_seen_38 ?_
      refine G_icmp_ne (pc := 39) 46 dX7_seen_39 (by decide) (by first | exact hS _ _ | exact hT _ _ | exact ⟨by omega, by omega⟩ | assumption | exact zWM.r (by assumption) _ _ (by decide)) (by first | exact hS _ _ | exact hT _ _ | exact ⟨by omega, by omega⟩ | assumption | exact zWM.r (by assumption) _ _ (by decide)) (fun c39 => ?_) (fun c39 => ?_)
      · refine G_iconst (pc := 46) dX7_seen_46 ?_
        exact G_iret_d (pc := 47) hF dX7_seen_47 ⟨Nat.le_of_ble_eq_true rfl, Nat.le_of_ble_eq_true rfl⟩ (by unfold mS; first | exact (if_pos (Or.inl c7)).symm | exact (if_pos (Or.inr c22)).symm | rw [if_neg (fun h => h.elim c7 c22), if_pos c39] | rw [if_neg (fun h => h.elim c7 c22), if_neg c39])
      · refine G_iconst (pc := 42) dX7_seen_42 ?_
        refine G_goto (pc := 43) 47 dX7_seen_43 (by decide) ?_
        exact G_iret_d (pc := 47) hF dX7_seen_47 ⟨Nat.le_of_ble_eq_true rfl, Nat.le_of_ble_eq_true rfl⟩ (by unfold mS; first | exact (if_pos (Or.inl c7)).symm | exact (if_pos (Or.inr c22)).symm | rw [if_neg (fun h => h.elim c7 c22), if_pos c39] | rw [if_neg (fun h => h.elim c7 c22), if_neg c39])
    · refine G_iconst (pc := 25) dX7_seen_25 ?_
      exact G_iret_d (pc := 26) hF dX7_seen_26 ⟨Nat.le_of_ble_eq_true rfl, Nat.le_of_ble_eq_true rfl⟩ (by unfold mS; first | exact (if_pos (Or.inl c7)).symm | exact (if_pos (Or.inr c22)).symm | rw [if_neg (fun h => h.elim c7 c22), if_pos c39] | rw [if_neg (fun h => h.elim c7 c22), if_neg c39])
set_option maxHeartbeats 4000000 in
set_option maxRecDepth 100000 in
theorem c_X7_stableNow {l : Launch} {Δ : zDl} {ad : zK → Nat} {P : zP} {S : zS} {X : zMem} {Q : zP} {w : Int} (hV : zWM Q S) (hw : 0 ≤ w ∧ w < 16) (h61 : Q 61 0 0 = P 61 0 0) : zMn l Δ yX7_stableNow cX7_stableNow 3 (some .int) 2 0 0 [.ref (ad (40, 0, 0, 0)), .int (zI w)] ad (mm Δ ad P S X) (zD (some (.int (zI (mEn S w)))) ad (mm Δ ad P S X)) := by
  refine zMn_of (by decide) (Nat.le_of_ble_eq_true rfl) (fun Γ hl hΔ hF => ?_)
  subst hl hΔ
  show G Γ _ _ _ RX7 _ _ _ _ _ [(0, .ref (ad (40, 0, 0, 0))), (1, .int (zI w))] []
  have hq := hV.q
  have h48 := hV.b48 w
  refine G_iconst (pc := 0) dX7_stableNow_0 ?_
  refine G_istore_ne (pc := 1) 2 (fun zw => [(2, .int (zI zw)), (0, .ref (ad (40, 0, 0, 0))), (1, .int (zI w))]) dX7_stableNow_1 rfl (by decide) (fun _ => rfl) (fun v1 e1 => ?_)
  have L2 : ∀ (n : Nat) (o : Int), ((0 ≤ o ∧ o ≤ S (48, 0, 0, 0) w) ∧ fi (mEq S w) o (S (48, 0, 0, 0) w) = mEn S w) → (S (48, 0, 0, 0) w - o).toNat < n → G Γ (zRm 2 0 0) cX7_stableNow 3 RX7 ad (mm (z_d Γ) ad P S X) 0 0 2 [(0, .ref (ad (40, 0, 0, 0))), (1, .int (zI w)), (2, .int (zI o))] [] := by
    intro n
    induction n with
    | zero => intro o _ hn; omega
    | succ n ih2 =>
      intro o hi2 hn2
      refine G_iload_n (pc := 2) 2 2 dX7_stableNow_2 rfl rfl ?_
      refine G_aload_n (pc := 3) 0 0 dX7_stableNow_3 rfl rfl ?_
      refine G_getf (pc := 4) fl_X7_26 dX7_stableNow_4 mg_40 rfl ?_
      refine G_iload_n (pc := 7) 1 1 dX7_stableNow_7 rfl rfl ?_
      refine G_iald (pc := 8) dX7_stableNow_8 mg_48 ⟨by omega, by omega, by omega, by omega⟩ ?_
      have hb8 := hV.b48 (w)
      refine G_icmp_ge (pc := 9) 34 dX7_stableNow_9 (by decide) (by first | exact hS _ _ | exact hT _ _ | exact ⟨by omega, by omega⟩ | assumption | exact zWM.r (by assumption) _ _ (by decide)) (by first | exact hS _ _ | exact hT _ _ | exact ⟨by omega, by omega⟩ | assumption | exact zWM.r (by assumption) _ _ (by decide)) (fun c9 => ?_) (fun c9 => ?_)
      · refine G_aload_n (pc := 34) 0 0 dX7_stableNow_34 rfl rfl ?_
        refine G_getf (pc := 35) fl_X7_26 dX7_stableNow_35 mg_40 rfl ?_
        refine G_iload_n (pc := 38) 1 1 dX7_stableNow_38 rfl rfl ?_
        refine G_iald (pc := 39) dX7_stableNow_39 mg_48 ⟨by omega, by omega, by omega, by omega⟩ ?_
        have hb39 := hV.b48 (w)
        exact G_iret_d (pc := 40) hF dX7_stableNow_40 ⟨Nat.le_of_ble_eq_true rfl, Nat.le_of_ble_eq_true rfl⟩ (by rw [← hi2.2, fi_end (by omega)]; omega)
      · refine G_aload_n (pc := 12) 0 0 dX7_stableNow_12 rfl rfl ?_
        refine G_aload_n (pc := 13) 0 0 dX7_stableNow_13 rfl rfl ?_
        refine G_iload_n (pc := 14) 1 1 dX7_stableNow_14 rfl rfl ?_
        refine G_iload_n (pc := 15) 2 2 dX7_stableNow_15 rfl rfl ?_
        refine G_callVd (pc := 16) gk_X7_113 dX7_stableNow_16 mg_40 rfl (c_X7_messageAt (Q := Q) (by first | assumption | omega | exact ⟨by omega, by omega⟩ | exact hS _ _ | exact hT _ _) (by first | assumption | omega | exact ⟨by omega, by omega⟩ | exact hS _ _ | exact hT _ _) (by first | assumption | omega | exact ⟨by omega, by omega⟩ | exact hS _ _ | exact hT _ _)) rfl rfl (Nat.le_of_ble_eq_true rfl) ⟨⟨Nat.le_of_ble_eq_true rfl, Nat.le_of_ble_eq_true rfl⟩, Nat.le_of_ble_eq_true rfl, Nat.le_of_ble_eq_true rfl⟩ ?_
        have hb16 := hV.b59 (w * 80 + o)
        refine G_callVd (pc := 19) gk_X7_117 dX7_stableNow_19 mg_40 rfl (c_X7_seen (Q := Q) (by first | assumption | omega | exact ⟨by omega, by omega⟩ | exact hS _ _ | exact hT _ _) (by first | assumption | omega | exact ⟨by omega, by omega⟩ | exact hS _ _ | exact hT _ _) (by first | assumption | omega | exact ⟨by omega, by omega⟩ | exact hS _ _ | exact hT _ _)) rfl rfl (Nat.le_of_ble_eq_true rfl) ⟨⟨Nat.le_of_ble_eq_true rfl, Nat.le_of_ble_eq_true rfl⟩, Nat.le_of_ble_eq_true rfl, Nat.le_of_ble_eq_true rfl⟩ ?_
        have hb19 := mS_le (S := S) (m := (S (59, 0, 0, 0) (w * 80 + o)))
        refine G_iconst (pc := 22) dX7_stableNow_22 ?_
        refine G_icmp_ne (pc := 23) 28 dX7_stableNow_23 (by decide) (by first | exact hS _ _ | exact hT _ _ | exact ⟨by omega, by omega⟩ | assumption | exact zWM.r (by assumption) _ _ (by decide)) (by first | exact hS _ _ | exact hT _ _ | exact ⟨by omega, by omega⟩ | assumption | exact zWM.r (by assumption) _ _ (by decide)) (fun c23 => ?_) (fun c23 => ?_)
        · refine G_iinc_e (pc := 28) 2 (fun zw => [(2, .int (zI zw)), (0, .ref (ad (40, 0, 0, 0))), (1, .int (zI w))]) dX7_stableNow_28 rfl (by decide) (fun _ => rfl) (fun v28 e28 => ?_)
          refine G_goto (pc := 31) 2 dX7_stableNow_31 (by decide) ?_
          refine G_perm (lv' := [(0, .ref (ad (40, 0, 0, 0))), (1, .int (zI w)), (2, .int (zI v28))]) [1, 2, 0] rfl ?_
          exact ih2 v28  ⟨by omega, by rw [e28, ← hi2.2]; exact (fi_miss (a := o) (n := S (48, 0, 0, 0) w) (by omega) c23).symm⟩ (by omega)
        · refine G_iload_n (pc := 26) 2 2 dX7_stableNow_26 rfl rfl ?_
          exact G_iret_d (pc := 27) hF dX7_stableNow_27 ⟨Nat.le_of_ble_eq_true rfl, Nat.le_of_ble_eq_true rfl⟩ (by rw [← hi2.2]; exact (fi_hit (a := o) (n := S (48, 0, 0, 0) w) (by omega) c23).symm)
  refine G_perm (lv' := [(0, .ref (ad (40, 0, 0, 0))), (1, .int (zI w)), (2, .int (zI v1))]) [1, 2, 0] rfl ?_
  exact L2 _ v1  ⟨by omega, by subst e1; rfl⟩ (Nat.lt_succ_self _)
set_option maxHeartbeats 4000000 in
set_option maxRecDepth 100000 in
theorem c_X7_isBehind {l : Launch} {Δ : zDl} {ad : zK → Nat} {P : zP} {S : zS} {X : zMem} {Q : zP} {g m : Int} (hV : zWM Q S) (hg4 : 0 ≤ g ∧ g < 4) (hm : 0 ≤ m ∧ m < 80) (h61 : Q 61 0 0 = P 61 0 0) : zMn l Δ yX7_isBehind cX7_isBehind 4 (some .boolean) 2 0 0 [.ref (ad (40, 0, 0, 0)), .int (zI g), .int (zI m)] ad (mm Δ ad P S X) (zD (some (.int (zI (if mB S g m then 1 else 0)))) ad (mm Δ ad P S X)) := by
  refine zMn_of (by decide) (Nat.le_of_ble_eq_true rfl) (fun Γ hl hΔ hF => ?_)
  subst hl hΔ
  show G Γ _ _ _ RX7 _ _ _ _ _ [(0, .ref (ad (40, 0, 0, 0))), (1, .int (zI g)), (2, .int (zI m))] []
  have hq := hV.q
  refine G_aload_n (pc := 0) 0 0 dX7_isBehind_0 rfl rfl ?_
  refine G_getf (pc := 1) fl_X7_81 dX7_isBehind_1 mg_40 rfl ?_
  refine G_iload_n (pc := 4) 1 1 dX7_isBehind_4 rfl rfl ?_
  refine G_bipush (pc := 5) dX7_isBehind_5 (by decide) ?_
  refine G_imul (pc := 7) dX7_isBehind_7 ?_
  refine G_iload_n (pc := 8) 2 2 dX7_isBehind_8 rfl rfl ?_
  refine G_iadd (pc := 9) dX7_isBehind_9 ?_
  refine G_iald (pc := 10) dX7_isBehind_10 mg_69 ⟨by omega, by omega, by omega, by omega⟩ ?_
  have hb10 := hV.b69 ((g * 80) + m)
  refine G_istore_ne (pc := 11) 3 (fun zw => [(3, .int (zI zw)), (0, .ref (ad (40, 0, 0, 0))), (1, .int (zI g)), (2, .int (zI m))]) dX7_isBehind_11 rfl (by decide) (fun _ => rfl) (fun v11 e11 => ?_)
  refine G_iload_n (pc := 12) 3 0 dX7_isBehind_12 rfl rfl ?_
  refine G_iconst (pc := 13) dX7_isBehind_13 ?_
  refine G_icmp_eq (pc := 14) 40 dX7_isBehind_14 (by decide) (by first | exact hS _ _ | exact hT _ _ | exact ⟨by omega, by omega⟩ | assumption | exact zWM.r (by assumption) _ _ (by decide)) (by first | exact hS _ _ | exact hT _ _ | exact ⟨by omega, by omega⟩ | assumption | exact zWM.r (by assumption) _ _ (by decide)) (fun c14 => ?_) (fun c14 => ?_)
  · refine G_iconst (pc := 40) dX7_isBehind_40 ?_
    refine G_goto (pc := 41) 45 dX7_isBehind_41 (by decide) ?_
    exact G_zret_d (pc := 45) hF dX7_isBehind_45 ⟨Nat.le_of_ble_eq_true rfl, Nat.le_of_ble_eq_true rfl⟩ (by first | exact zb_ite | omega) (by first | exact (if_pos (Or.inl (Or.inl (by omega)))).symm | exact (if_pos (Or.inl (Or.inr (by omega)))).symm | exact (if_pos (Or.inr (Or.inl (by assumption)))).symm | exact (if_pos (Or.inr (Or.inr (by assumption)))).symm | exact (if_neg (fun h => by rcases h with (h | h) | h | h <;> omega)).symm)
  · refine G_iload_n (pc := 17) 3 0 dX7_isBehind_17 rfl rfl ?_
    refine G_iconst (pc := 18) dX7_isBehind_18 ?_
    refine G_icmp_eq (pc := 19) 40 dX7_isBehind_19 (by decide) (by first | exact hS _ _ | exact hT _ _ | exact ⟨by omega, by omega⟩ | assumption | exact zWM.r (by assumption) _ _ (by decide)) (by first | exact hS _ _ | exact hT _ _ | exact ⟨by omega, by omega⟩ | assumption | exact zWM.r (by assumption) _ _ (by decide)) (fun c19 => ?_) (fun c19 => ?_)
    · refine G_iconst (pc := 40) dX7_isBehind_40 ?_
      refine G_goto (pc := 41) 45 dX7_isBehind_41 (by decide) ?_
      exact G_zret_d (pc := 45) hF dX7_isBehind_45 ⟨Nat.le_of_ble_eq_true rfl, Nat.le_of_ble_eq_true rfl⟩ (by first | exact zb_ite | omega) (by first | exact (if_pos (Or.inl (Or.inl (by omega)))).symm | exact (if_pos (Or.inl (Or.inr (by omega)))).symm | exact (if_pos (Or.inr (Or.inl (by assumption)))).symm | exact (if_pos (Or.inr (Or.inr (by assumption)))).symm | exact (if_neg (fun h => by rcases h with (h | h) | h | h <;> omega)).symm)
    · refine G_aload_n (pc := 22) 0 1 dX7_isBehind_22 rfl rfl ?_
      refine G_iload_n (pc := 23) 2 3 dX7_isBehind_23 rfl rfl ?_
      refine G_callVd (pc := 24) gk_X7_117 dX7_isBehind_24 mg_40 rfl (c_X7_seen (Q := Q) (by first | assumption | omega | exact ⟨by omega, by omega⟩ | exact hS _ _ | exact hT _ _) (by first | assumption | omega | exact ⟨by omega, by omega⟩ | exact hS _ _ | exact hT _ _) (by first | assumption | omega | exact ⟨by omega, by omega⟩ | exact hS _ _ | exact hT _ _)) rfl rfl (Nat.le_of_ble_eq_true rfl) ⟨⟨Nat.le_of_ble_eq_true rfl, Nat.le_of_ble_eq_true rfl⟩, Nat.le_of_ble_eq_true rfl, Nat.le_of_ble_eq_true rfl⟩ ?_
      have hb24 := mS_le (S := S) (m := m)
      refine G_iconst (pc := 27) dX7_isBehind_27 ?_
      refine G_icmp_eq (pc := 28) 40 dX7_isBehind_28 (by decide) (by first | exact hS _ _ | exact hT _ _ | exact ⟨by omega, by omega⟩ | assumption | exact zWM.r (by assumption) _ _ (by decide)) (by first | exact hS _ _ | exact hT _ _ | exact ⟨by omega, by omega⟩ | assumption | exact zWM.r (by assumption) _ _ (by decide)) (fun c28 => ?_) (fun c28 => ?_)
      · refine G_iconst (pc := 40) dX7_isBehind_40 ?_
        refine G_goto (pc := 41) 45 dX7_isBehind_41 (by decide) ?_
        exact G_zret_d (pc := 45) hF dX7_isBehind_45 ⟨Nat.le_of_ble_eq_true rfl, Nat.le_of_ble_eq_true rfl⟩ (by first | exact zb_ite | omega) (by first | exact (if_pos (Or.inl (Or.inl (by omega)))).symm | exact (if_pos (Or.inl (Or.inr (by omega)))).symm | exact (if_pos (Or.inr (Or.inl (by assumption)))).symm | exact (if_pos (Or.inr (Or.inr (by assumption)))).symm | exact (if_neg (fun h => by rcases h with (h | h) | h | h <;> omega)).symm)
      · refine G_aload_n (pc := 31) 0 1 dX7_isBehind_31 rfl rfl ?_
        refine G_getf (pc := 32) fl_X7_54 dX7_isBehind_32 mg_40 rfl ?_
        refine G_iload_n (pc := 35) 2 3 dX7_isBehind_35 rfl rfl ?_
        refine G_zald (pc := 36) dX7_isBehind_36 mg_58 ⟨by omega, by omega, by omega, by omega⟩ ?_
        have hb36 := hV.b58 (m)
        refine G_if_eq (pc := 37) 44 dX7_isBehind_37 (by decide) (by first | exact hS _ _ | exact hT _ _ | exact ⟨by omega, by omega⟩ | assumption | exact zWM.r (by assumption) _ _ (by decide)) (fun c37 => ?_) (fun c37 => ?_)
        · refine G_iconst (pc := 44) dX7_isBehind_44 ?_
          exact G_zret_d (pc := 45) hF dX7_isBehind_45 ⟨Nat.le_of_ble_eq_true rfl, Nat.le_of_ble_eq_true rfl⟩ (by first | exact zb_ite | omega) (by first | exact (if_pos (Or.inl (Or.inl (by omega)))).symm | exact (if_pos (Or.inl (Or.inr (by omega)))).symm | exact (if_pos (Or.inr (Or.inl (by assumption)))).symm | exact (if_pos (Or.inr (Or.inr (by assumption)))).symm | exact (if_neg (fun h => by rcases h with (h | h) | h | h <;> omega)).symm)
        · refine G_iconst (pc := 40) dX7_isBehind_40 ?_
          refine G_goto (pc := 41) 45 dX7_isBehind_41 (by decide) ?_
          exact G_zret_d (pc := 45) hF dX7_isBehind_45 ⟨Nat.le_of_ble_eq_true rfl, Nat.le_of_ble_eq_true rfl⟩ (by first | exact zb_ite | omega) (by first | exact (if_pos (Or.inl (Or.inl (by omega)))).symm | exact (if_pos (Or.inl (Or.inr (by omega)))).symm | exact (if_pos (Or.inr (Or.inl (by assumption)))).symm | exact (if_pos (Or.inr (Or.inr (by assumption)))).symm | exact (if_neg (fun h => by rcases h with (h | h) | h | h <;> omega)).symm)
set_option maxHeartbeats 4000000 in
set_option maxRecDepth 100000 in
theorem c_X7_forget {l : Launch} {Δ : zDl} {ad : zK → Nat} {P : zP} {S : zS} {X : zMem} {Q : zP} {g m : Int} (hV : zWM Q S) (hg4 : 0 ≤ g ∧ g < 4) (hm : 0 ≤ m ∧ m < 80) : zMn l Δ yX7_forget cX7_forget 3 none 1 0 0 [.ref (ad (40, 0, 0, 0)), .int (zI g), .int (zI m)] ad (mm Δ ad P S X) (zD none ad (mm Δ ad P (mfg S g m) X)) := by
  refine zMn_of (by decide) (Nat.le_of_ble_eq_true rfl) (fun Γ hl hΔ hF => ?_)
  subst hl hΔ
  show G Γ _ _ _ RX7 _ _ _ _ _ [(0, .ref (ad (40, 0, 0, 0))), (1, .int (zI g)), (2, .int (zI m))] []
  have hq := hV.q
  refine G_aload_n (pc := 0) 0 0 dX7_forget_0 rfl rfl ?_
  refine G_getf (pc := 1) fl_X7_81 dX7_forget_1 mg_40 rfl ?_
  refine G_iload_n (pc := 4) 1 1 dX7_forget_4 rfl rfl ?_
  refine G_bipush (pc := 5) dX7_forget_5 (by decide) ?_
  refine G_imul (pc := 7) dX7_forget_7 ?_
  refine G_iload_n (pc := 8) 2 2 dX7_forget_8 rfl rfl ?_
  refine G_iadd (pc := 9) dX7_forget_9 ?_
  refine G_iconst (pc := 10) dX7_forget_10 ?_
  refine G_iast (pc := 11) dX7_forget_11 mg_69 ⟨by omega, by omega, by omega, by omega⟩ (mp_69 _ _) ?_
  refine G_name (fun S1_11 hS1_11 => ?_)
  have hVS1_11 : zWM Q S1_11 := by rw [hS1_11]; exact hV.s69 ⟨by omega, by omega⟩
  refine G_aload_n (pc := 12) 0 0 dX7_forget_12 rfl rfl ?_
  refine G_getf (pc := 13) fl_X7_84 dX7_forget_13 mg_40 rfl ?_
  refine G_iload_n (pc := 16) 1 1 dX7_forget_16 rfl rfl ?_
  refine G_bipush (pc := 17) dX7_forget_17 (by decide) ?_
  refine G_imul (pc := 19) dX7_forget_19 ?_
  refine G_iload_n (pc := 20) 2 2 dX7_forget_20 rfl rfl ?_
  refine G_iadd (pc := 21) dX7_forget_21 ?_
  refine G_iconst (pc := 22) dX7_forget_22 ?_
  refine G_iast (pc := 23) dX7_forget_23 mg_70 ⟨by omega, by omega, by omega, by omega⟩ (mp_70 _ _) ?_
  refine G_name (fun S2_23 hS2_23 => ?_)
  have hVS2_23 : zWM Q S2_23 := by rw [hS2_23]; exact hVS1_11.s70 ⟨by omega, by omega⟩
  exact G_vret_d (pc := 24) hF dX7_forget_24 ⟨Nat.le_of_ble_eq_true rfl, Nat.le_of_ble_eq_true rfl⟩ (by rw [hS2_23, hS1_11]; rfl)
set_option maxHeartbeats 4000000 in
set_option maxRecDepth 100000 in
theorem c_X7_drop {l : Launch} {Δ : zDl} {ad : zK → Nat} {P : zP} {S : zS} {X : zMem} {Q : zP} {m : Int} (hV : zWM Q S) (hm : 0 ≤ m ∧ m < 80) : zMn l Δ yX7_drop cX7_drop 3 none 2 0 0 [.ref (ad (40, 0, 0, 0)), .int (zI m)] ad (mm Δ ad P S X) (zD none ad (mm Δ ad P (mdr Q S m) X)) := by
  refine zMn_of (by decide) (Nat.le_of_ble_eq_true rfl) (fun Γ hl hΔ hF => ?_)
  subst hl hΔ
  show G Γ _ _ _ RX7 _ _ _ _ _ [(0, .ref (ad (40, 0, 0, 0))), (1, .int (zI m))] []
  have hq := hV.q
  refine G_aload_n (pc := 0) 0 0 dX7_drop_0 rfl rfl ?_
  refine G_getf (pc := 1) fl_X7_54 dX7_drop_1 mg_40 rfl ?_
  refine G_iload_n (pc := 4) 1 1 dX7_drop_4 rfl rfl ?_
  refine G_iconst (pc := 5) dX7_drop_5 ?_
  refine G_zast (pc := 6) dX7_drop_6 mg_58 ⟨by omega, by omega, by omega, by omega⟩ (by first | exact zb_ite | omega) (mp_58 _ _) ?_
  refine G_name (fun S1_6 hS1_6 => ?_)
  have hVS1_6 : zWM Q S1_6 := by rw [hS1_6]; exact hV.s58 ⟨by omega, by omega⟩
  refine G_iconst (pc := 7) dX7_drop_7 ?_
  refine G_istore_ne (pc := 8) 2 (fun zw => [(2, .int (zI zw)), (0, .ref (ad (40, 0, 0, 0))), (1, .int (zI m))]) dX7_drop_8 rfl (by decide) (fun _ => rfl) (fun v8 e8 => ?_)
  have L9 : ∀ (n : Nat) (g : Int) (T : zS), ((0 ≤ g ∧ g ≤ Q 3 0 0) ∧ lp (md1 m) g (Q 3 0 0) T = mdr Q S m ∧ zWM Q T) → (Q 3 0 0 - g).toNat < n → G Γ (zRm 2 0 0) cX7_drop 3 RX7 ad (mm (z_d Γ) ad P T X) 0 0 9 [(0, .ref (ad (40, 0, 0, 0))), (1, .int (zI m)), (2, .int (zI g))] [] := by
    intro n
    induction n with
    | zero => intro g T _ hn; omega
    | succ n ih9 =>
      intro g T hi9 hn9
      obtain ⟨hg0, hz, hTV⟩ := hi9
      have h23 := hTV.g23
      refine G_iload_n (pc := 9) 2 2 dX7_drop_9 rfl rfl ?_
      refine G_aload_n (pc := 10) 0 0 dX7_drop_10 rfl rfl ?_
      refine G_getf (pc := 11) fl_X7_107 dX7_drop_11 mg_40 rfl ?_
      refine G_icmp_ge (pc := 14) 59 dX7_drop_14 (by decide) (by first | exact hS _ _ | exact hT _ _ | exact ⟨by omega, by omega⟩ | assumption | exact zWM.r (by assumption) _ _ (by decide)) (by first | exact hS _ _ | exact hT _ _ | exact ⟨by omega, by omega⟩ | assumption | exact zWM.r (by assumption) _ _ (by decide)) (fun c14 => ?_) (fun c14 => ?_)
      · exact G_vret_d (pc := 59) hF dX7_drop_59 ⟨Nat.le_of_ble_eq_true rfl, Nat.le_of_ble_eq_true rfl⟩ (by rw [← hz, lp_end (by omega)])
      · refine G_aload_n (pc := 17) 0 0 dX7_drop_17 rfl rfl ?_
        refine G_getf (pc := 18) fl_X7_81 dX7_drop_18 mg_40 rfl ?_
        refine G_iload_n (pc := 21) 2 2 dX7_drop_21 rfl rfl ?_
        refine G_bipush (pc := 22) dX7_drop_22 (by decide) ?_
        refine G_imul (pc := 24) dX7_drop_24 ?_
        refine G_iload_n (pc := 25) 1 1 dX7_drop_25 rfl rfl ?_
        refine G_iadd (pc := 26) dX7_drop_26 ?_
        refine G_iald (pc := 27) dX7_drop_27 mg_69 ⟨by omega, by omega, by omega, by omega⟩ ?_
        have hb27 := hTV.b69 ((g * 80) + m)
        refine G_iconst (pc := 28) dX7_drop_28 ?_
        refine G_icmp_eq (pc := 29) 47 dX7_drop_29 (by decide) (by first | exact hS _ _ | exact hT _ _ | exact ⟨by omega, by omega⟩ | assumption | exact zWM.r (by assumption) _ _ (by decide)) (by first | exact hS _ _ | exact hT _ _ | exact ⟨by omega, by omega⟩ | assumption | exact zWM.r (by assumption) _ _ (by decide)) (fun c29 => ?_) (fun c29 => ?_)
        · refine G_aload_n (pc := 47) 0 0 dX7_drop_47 rfl rfl ?_
          refine G_iload_n (pc := 48) 2 2 dX7_drop_48 rfl rfl ?_
          refine G_iload_n (pc := 49) 1 1 dX7_drop_49 rfl rfl ?_
          refine G_callVv (pc := 50) gk_X7_130 dX7_drop_50 mg_40 rfl (c_X7_forget (Q := Q) (by first | assumption | omega | exact ⟨by omega, by omega⟩ | exact hS _ _ | exact hT _ _) (by first | assumption | omega | exact ⟨by omega, by omega⟩ | exact hS _ _ | exact hT _ _) (by first | assumption | omega | exact ⟨by omega, by omega⟩ | exact hS _ _ | exact hT _ _)) rfl rfl (Nat.le_of_ble_eq_true rfl) ⟨⟨Nat.le_of_ble_eq_true rfl, Nat.le_of_ble_eq_true rfl⟩, Nat.le_of_ble_eq_true rfl, Nat.le_of_ble_eq_true rfl⟩ ?_
          refine G_name (fun S2_50 hS2_50 => ?_)
          have hVS2_50 : zWM Q S2_50 := by rw [hS2_50]; exact mfg_W hTV
          first | (have hz2 : md1 m g T = S2_50 := by rw [hS2_50]; exact if_pos (by omega)) | skip
          refine G_iinc_e (pc := 53) 2 (fun zw => [(2, .int (zI zw)), (0, .ref (ad (40, 0, 0, 0))), (1, .int (zI m))]) dX7_drop_53 rfl (by decide) (fun _ => rfl) (fun v53 e53 => ?_)
          refine G_goto (pc := 56) 9 dX7_drop_56 (by decide) ?_
          refine G_perm (lv' := [(0, .ref (ad (40, 0, 0, 0))), (1, .int (zI m)), (2, .int (zI v53))]) [1, 2, 0] rfl ?_
          exact ih9 v53 S2_50 ⟨by omega, by rw [e53, ← hz, lp_step (a := g) (n := Q 3 0 0) (by omega), hz2], by assumption⟩ (by omega)
        · refine G_aload_n (pc := 32) 0 0 dX7_drop_32 rfl rfl ?_
          refine G_getf (pc := 33) fl_X7_81 dX7_drop_33 mg_40 rfl ?_
          refine G_iload_n (pc := 36) 2 2 dX7_drop_36 rfl rfl ?_
          refine G_bipush (pc := 37) dX7_drop_37 (by decide) ?_
          refine G_imul (pc := 39) dX7_drop_39 ?_
          refine G_iload_n (pc := 40) 1 1 dX7_drop_40 rfl rfl ?_
          refine G_iadd (pc := 41) dX7_drop_41 ?_
          refine G_iald (pc := 42) dX7_drop_42 mg_69 ⟨by omega, by omega, by omega, by omega⟩ ?_
          have hb42 := hTV.b69 ((g * 80) + m)
          refine G_iconst (pc := 43) dX7_drop_43 ?_
          refine G_icmp_ne (pc := 44) 53 dX7_drop_44 (by decide) (by first | exact hS _ _ | exact hT _ _ | exact ⟨by omega, by omega⟩ | assumption | exact zWM.r (by assumption) _ _ (by decide)) (by first | exact hS _ _ | exact hT _ _ | exact ⟨by omega, by omega⟩ | assumption | exact zWM.r (by assumption) _ _ (by decide)) (fun c44 => ?_) (fun c44 => ?_)
          · have hz2 : md1 m g T = T := if_neg (fun h => by omega)
            first | (have hz2 : md1 m g T = T := by rw [hT]; exact if_pos (by omega)) | skip
            refine G_iinc_e (pc := 53) 2 (fun zw => [(2, .int (zI zw)), (0, .ref (ad (40, 0, 0, 0))), (1, .int (zI m))]) dX7_drop_53 rfl (by decide) (fun _ => rfl) (fun v53 e53 => ?_)
            refine G_goto (pc := 56) 9 dX7_drop_56 (by decide) ?_
            refine G_perm (lv' := [(0, .ref (ad (40, 0, 0, 0))), (1, .int (zI m)), (2, .int (zI v53))]) [1, 2, 0] rfl ?_
            exact ih9 v53 T ⟨by omega, by rw [e53, ← hz, lp_step (a := g) (n := Q 3 0 0) (by omega), hz2], by assumption⟩ (by omega)
          · refine G_aload_n (pc := 47) 0 0 dX7_drop_47 rfl rfl ?_
            refine G_iload_n (pc := 48) 2 2 dX7_drop_48 rfl rfl ?_
            refine G_iload_n (pc := 49) 1 1 dX7_drop_49 rfl rfl ?_
            refine G_callVv (pc := 50) gk_X7_130 dX7_drop_50 mg_40 rfl (c_X7_forget (Q := Q) (by first | assumption | omega | exact ⟨by omega, by omega⟩ | exact hS _ _ | exact hT _ _) (by first | assumption | omega | exact ⟨by omega, by omega⟩ | exact hS _ _ | exact hT _ _) (by first | assumption | omega | exact ⟨by omega, by omega⟩ | exact hS _ _ | exact hT _ _)) rfl rfl (Nat.le_of_ble_eq_true rfl) ⟨⟨Nat.le_of_ble_eq_true rfl, Nat.le_of_ble_eq_true rfl⟩, Nat.le_of_ble_eq_true rfl, Nat.le_of_ble_eq_true rfl⟩ ?_
            refine G_name (fun S3_50 hS3_50 => ?_)
            have hVS3_50 : zWM Q S3_50 := by rw [hS3_50]; exact mfg_W hTV
            first | (have hz2 : md1 m g T = S3_50 := by rw [hS3_50]; exact if_pos (by omega)) | skip
            refine G_iinc_e (pc := 53) 2 (fun zw => [(2, .int (zI zw)), (0, .ref (ad (40, 0, 0, 0))), (1, .int (zI m))]) dX7_drop_53 rfl (by decide) (fun _ => rfl) (fun v53 e53 => ?_)
            refine G_goto (pc := 56) 9 dX7_drop_56 (by decide) ?_
            refine G_perm (lv' := [(0, .ref (ad (40, 0, 0, 0))), (1, .int (zI m)), (2, .int (zI v53))]) [1, 2, 0] rfl ?_
            exact ih9 v53 S3_50 ⟨by omega, by rw [e53, ← hz, lp_step (a := g) (n := Q 3 0 0) (by omega), hz2], by assumption⟩ (by omega)
  refine G_perm (lv' := [(0, .ref (ad (40, 0, 0, 0))), (1, .int (zI m)), (2, .int (zI v8))]) [1, 2, 0] rfl ?_
  exact L9 _ v8 S1_6 ⟨by omega, by rw [e8, hS1_6]; rfl, hVS1_6⟩ (Nat.lt_succ_self _)
set_option maxHeartbeats 4000000 in
set_option maxRecDepth 100000 in
theorem c_X7_settle {l : Launch} {Δ : zDl} {ad : zK → Nat} {P : zP} {S : zS} {X : zMem} {Q : zP}  (hV : zWM Q S) (h61 : Q 61 0 0 = P 61 0 0) : zMn l Δ yX7_settle cX7_settle 5 none 3 0 0 [.ref (ad (40, 0, 0, 0))] ad (mm Δ ad P S X) (zD none ad (mm Δ ad P (msa Q S) X)) := by
  refine zMn_of (by decide) (Nat.le_of_ble_eq_true rfl) (fun Γ hl hΔ hF => ?_)
  subst hl hΔ
  show G Γ _ _ _ RX7 _ _ _ _ _ [(0, .ref (ad (40, 0, 0, 0)))] []
  have hq := hV.q
  refine G_iconst (pc := 0) dX7_settle_0 ?_
  refine G_istore_ne (pc := 1) 1 (fun zw => [(1, .int (zI zw)), (0, .ref (ad (40, 0, 0, 0)))]) dX7_settle_1 rfl (by decide) (fun _ => rfl) (fun v1 e1 => ?_)
  have L2 : ∀ (n : Nat) (g : Int) (T : zS), ((0 ≤ g ∧ g ≤ Q 3 0 0) ∧ lp (msg Q) g (Q 3 0 0) T = msa Q S ∧ zWM Q T) → (Q 3 0 0 - g).toNat < n → G Γ (zRm 3 0 0) cX7_settle 5 RX7 ad (mm (z_d Γ) ad P T X) 0 0 2 [(0, .ref (ad (40, 0, 0, 0))), (1, .int (zI g))] [] := by
    intro n
    induction n with
    | zero => intro g T _ hn; omega
    | succ n ih2 =>
      intro g T hi2 hn2
      obtain ⟨hg0, hz, hTV⟩ := hi2
      have h23 := hTV.g23
      refine G_iload_n (pc := 2) 1 1 dX7_settle_2 rfl rfl ?_
      refine G_aload_n (pc := 3) 0 0 dX7_settle_3 rfl rfl ?_
      refine G_getf (pc := 4) fl_X7_107 dX7_settle_4 mg_40 rfl ?_
      refine G_icmp_ge (pc := 7) 127 dX7_settle_7 (by decide) (by first | exact hS _ _ | exact hT _ _ | exact ⟨by omega, by omega⟩ | assumption | exact zWM.r (by assumption) _ _ (by decide)) (by first | exact hS _ _ | exact hT _ _ | exact ⟨by omega, by omega⟩ | assumption | exact zWM.r (by assumption) _ _ (by decide)) (fun c7 => ?_) (fun c7 => ?_)
      · exact G_vret_d (pc := 127) hF dX7_settle_127 ⟨Nat.le_of_ble_eq_true rfl, Nat.le_of_ble_eq_true rfl⟩ (by rw [← hz, lp_end (by omega)])
      · have hg : 0 ≤ g ∧ g < Q 3 0 0 := by omega
        have hqg := hTV.qg hg
        have hqt := hTV.qt hqg
        refine G_iconst (pc := 10) dX7_settle_10 ?_
        refine G_istore_ne (pc := 11) 2 (fun zw => [(2, .int (zI zw)), (0, .ref (ad (40, 0, 0, 0))), (1, .int (zI g))]) dX7_settle_11 rfl (by decide) (fun _ => rfl) (fun v11 e11 => ?_)
        have L12 : ∀ (n : Nat) (p : Int) (T2 : zS), ((0 ≤ p ∧ p ≤ Q 1 (Q 4 g 0) 0) ∧ lp (mse Q g) p (Q 1 (Q 4 g 0) 0) T2 = msg Q g T ∧ zWM Q T2) → (Q 1 (Q 4 g 0) 0 - p).toNat < n → G Γ (zRm 3 0 0) cX7_settle 5 RX7 ad (mm (z_d Γ) ad P T2 X) 0 0 12 [(0, .ref (ad (40, 0, 0, 0))), (1, .int (zI g)), (2, .int (zI p))] [] := by
          intro n
          induction n with
          | zero => intro p T2 _ hn; omega
          | succ n ih12 =>
            intro p T2 hi12 hn12
            obtain ⟨hp0, hz2, hT2V⟩ := hi12
            have hgt2 := hT2V.gt hg
            have hgn2 := hT2V.gn hg
            refine G_iload_n (pc := 12) 2 2 dX7_settle_12 rfl rfl ?_
            refine G_aload_n (pc := 13) 0 0 dX7_settle_13 rfl rfl ?_
            refine G_getf (pc := 14) fl_X7_16 dX7_settle_14 mg_40 rfl ?_
            refine G_aload_n (pc := 17) 0 0 dX7_settle_17 rfl rfl ?_
            refine G_getf (pc := 18) fl_X7_66 dX7_settle_18 mg_40 rfl ?_
            refine G_iload_n (pc := 21) 1 1 dX7_settle_21 rfl rfl ?_
            refine G_iald (pc := 22) dX7_settle_22 mg_64 ⟨by omega, by omega, by omega, by omega⟩ ?_
            have hb22 := hT2V.b64 (g)
            refine G_iald (pc := 23) dX7_settle_23 mg_45 ⟨by omega, by omega, by omega, by omega⟩ ?_
            have hb23 := hT2V.b45 (T2 (64, 0, 0, 0) g)
            refine G_icmp_ge (pc := 24) 121 dX7_settle_24 (by decide) (by first | exact hS _ _ | exact hT _ _ | exact ⟨by omega, by omega⟩ | assumption | exact zWM.r (by assumption) _ _ (by decide)) (by first | exact hS _ _ | exact hT _ _ | exact ⟨by omega, by omega⟩ | assumption | exact zWM.r (by assumption) _ _ (by decide)) (fun c24 => ?_) (fun c24 => ?_)
            · have hz5 : msg Q g T = T2 := by rw [← hz2, lp_end (by omega)]
              refine G_iinc_e (pc := 121) 1 (fun zw => [(1, .int (zI zw)), (0, .ref (ad (40, 0, 0, 0))), (2, .int (zI p))]) dX7_settle_121 rfl (by decide) (fun _ => rfl) (fun v121 e121 => ?_)
              refine G_goto (pc := 124) 2 dX7_settle_124 (by decide) ?_
              refine G_perm (lv' := [(0, .ref (ad (40, 0, 0, 0))), (1, .int (zI v121))]) [1, 0] rfl ?_
              exact ih2 v121 T2 ⟨by omega, by rw [e121, ← hz, lp_step (a := g) (n := Q 3 0 0) (by omega), hz5], hT2V⟩ (by omega)
            · refine G_iload_n (pc := 27) 1 1 dX7_settle_27 rfl rfl ?_
              refine G_iconst (pc := 28) dX7_settle_28 ?_
              refine G_imul (pc := 29) dX7_settle_29 ?_
              refine G_iload_n (pc := 30) 2 2 dX7_settle_30 rfl rfl ?_
              refine G_iadd (pc := 31) dX7_settle_31 ?_
              refine G_istore_ne (pc := 32) 3 (fun zw => [(3, .int (zI zw)), (0, .ref (ad (40, 0, 0, 0))), (1, .int (zI g)), (2, .int (zI p))]) dX7_settle_32 rfl (by decide) (fun _ => rfl) (fun v32 e32 => ?_)
              refine G_aload_n (pc := 33) 0 1 dX7_settle_33 rfl rfl ?_
              refine G_getf (pc := 34) fl_X7_66 dX7_settle_34 mg_40 rfl ?_
              refine G_iload_n (pc := 37) 1 2 dX7_settle_37 rfl rfl ?_
              refine G_iald (pc := 38) dX7_settle_38 mg_64 ⟨by omega, by omega, by omega, by omega⟩ ?_
              have hb38 := hT2V.b64 (g)
              refine G_iconst (pc := 39) dX7_settle_39 ?_
              refine G_imul (pc := 40) dX7_settle_40 ?_
              refine G_iload_n (pc := 41) 2 3 dX7_settle_41 rfl rfl ?_
              refine G_iadd (pc := 42) dX7_settle_42 ?_
              refine G_istore_e (pc := 43) (fun zw => [(4, .int (zI zw)), (3, .int (zI v32)), (0, .ref (ad (40, 0, 0, 0))), (1, .int (zI g)), (2, .int (zI p))]) dX7_settle_43 (by decide) (fun _ => rfl) (fun v43 e43 => ?_)
              have hp : 0 ≤ p ∧ p < Q 1 (Q 4 g 0) 0 := by omega
              have hw : v43 = Q 4 g 0 * 4 + p := by rw [e43, hgt2]
              have hqm := hTV.qm hqg hp
              have L45 : ∀ (n : Nat) (T3 : zS), (mm1 Q g p T3 = mm1 Q g p T2 ∧ zWM Q T3) → (Q 2 (Q 4 g 0) p - T3 (65, 0, 0, 0) (g * 4 + p)).toNat < n → G Γ (zRm 3 0 0) cX7_settle 5 RX7 ad (mm (z_d Γ) ad P T3 X) 0 0 45 [(0, .ref (ad (40, 0, 0, 0))), (1, .int (zI g)), (2, .int (zI p)), (3, .int (zI v32)), (4, .int (zI v43))] [] := by
                intro n
                induction n with
                | zero => intro  T3 _ hn; omega
                | succ n ih45 =>
                  intro  T3 hi45 hn45
                  obtain ⟨hz3, hT3V⟩ := hi45
                  have hen3 : T3 (48, 0, 0, 0) v43 = Q 2 (Q 4 g 0) p := by rw [hw]; exact hT3V.en hqg hp
                  have hk3 : T3 (65, 0, 0, 0) v32 = T3 (65, 0, 0, 0) (g * 4 + p) := by rw [e32]
                  refine G_aload_n (pc := 45) 0 0 dX7_settle_45 rfl rfl ?_
                  refine G_getf (pc := 46) fl_X7_69 dX7_settle_46 mg_40 rfl ?_
                  refine G_iload_n (pc := 49) 3 3 dX7_settle_49 rfl rfl ?_
                  refine G_iald (pc := 50) dX7_settle_50 mg_65 ⟨by omega, by omega, by omega, by omega⟩ ?_
                  have hb50 := hT3V.b65 (v32)
                  refine G_aload_n (pc := 51) 0 0 dX7_settle_51 rfl rfl ?_
                  refine G_getf (pc := 52) fl_X7_26 dX7_settle_52 mg_40 rfl ?_
                  refine G_iload (pc := 55) 4 dX7_settle_55 rfl ?_
                  refine G_iald (pc := 57) dX7_settle_57 mg_48 ⟨by omega, by omega, by omega, by omega⟩ ?_
                  have hb57 := hT3V.b48 (v43)
                  refine G_icmp_ge (pc := 58) 94 dX7_settle_58 (by decide) (by first | exact hS _ _ | exact hT _ _ | exact ⟨by omega, by omega⟩ | assumption | exact zWM.r (by assumption) _ _ (by decide)) (by first | exact hS _ _ | exact hT _ _ | exact ⟨by omega, by omega⟩ | assumption | exact zWM.r (by assumption) _ _ (by decide)) (fun c58 => ?_) (fun c58 => ?_)
                  · have hz6 : ¬ mmc Q g p T3 := fun h => by have := h.1; omega
                    have hz7 : T3 = mm1 Q g p T2 := by rw [← hz3]; unfold mm1; rw [mmk_stop _ hz6]
                    refine G_aload_n (pc := 94) 0 0 dX7_settle_94 rfl rfl ?_
                    refine G_getf (pc := 95) fl_X7_72 dX7_settle_95 mg_40 rfl ?_
                    refine G_iload_n (pc := 98) 3 3 dX7_settle_98 rfl rfl ?_
                    refine G_aload_n (pc := 99) 0 0 dX7_settle_99 rfl rfl ?_
                    refine G_getf (pc := 100) fl_X7_72 dX7_settle_100 mg_40 rfl ?_
                    refine G_iload_n (pc := 103) 3 3 dX7_settle_103 rfl rfl ?_
                    refine G_iald (pc := 104) dX7_settle_104 mg_66 ⟨by omega, by omega, by omega, by omega⟩ ?_
                    have hb104 := hT3V.b66 (v32)
                    refine G_aload_n (pc := 105) 0 0 dX7_settle_105 rfl rfl ?_
                    refine G_getf (pc := 106) fl_X7_69 dX7_settle_106 mg_40 rfl ?_
                    refine G_iload_n (pc := 109) 3 3 dX7_settle_109 rfl rfl ?_
                    refine G_iald (pc := 110) dX7_settle_110 mg_65 ⟨by omega, by omega, by omega, by omega⟩ ?_
                    have hb110 := hT3V.b65 (v32)
                    refine G_mmax (pc := 111) mx_X7_125 dX7_settle_111 (by first | exact hS _ _ | exact hT _ _ | exact ⟨by omega, by omega⟩ | assumption | exact zWM.r (by assumption) _ _ (by decide)) (by first | exact hS _ _ | exact hT _ _ | exact ⟨by omega, by omega⟩ | assumption | exact zWM.r (by assumption) _ _ (by decide)) ⟨⟨Nat.le_of_ble_eq_true rfl, Nat.le_of_ble_eq_true rfl⟩, Nat.le_of_ble_eq_true rfl, Nat.le_of_ble_eq_true rfl⟩ ?_
                    refine G_iast (pc := 114) dX7_settle_114 mg_66 ⟨by omega, by omega, by omega, by omega⟩ (mp_66 _ _) ?_
                    refine G_name (fun S1_114 hS1_114 => ?_)
                    have hVS1_114 : zWM Q S1_114 := by rw [hS1_114]; exact hT3V.s66 ⟨by omega, by omega⟩
                    have hz4 : mse Q g p T2 = S1_114 := by rw [hS1_114, e32]; unfold mse; rw [← hz7]
                    refine G_iinc_e (pc := 115) 2 (fun zw => [(2, .int (zI zw)), (0, .ref (ad (40, 0, 0, 0))), (1, .int (zI g)), (3, .int (zI v32)), (4, .int (zI v43))]) dX7_settle_115 rfl (by decide) (fun _ => rfl) (fun v115 e115 => ?_)
                    refine G_goto (pc := 118) 12 dX7_settle_118 (by decide) ?_
                    refine G_perm (lv' := [(0, .ref (ad (40, 0, 0, 0))), (1, .int (zI g)), (2, .int (zI v115))]) [1, 2, 0] rfl ?_
                    exact ih12 v115 S1_114 ⟨by omega, by rw [e115, ← hz2, lp_step (a := p) (n := Q 1 (Q 4 g 0) 0) (by omega), hz4], by rw [← hz4]; exact mse_W hT2V hg hp⟩ (by omega)
                  · refine G_aload_n (pc := 61) 0 0 dX7_settle_61 rfl rfl ?_
                    refine G_iload_n (pc := 62) 1 1 dX7_settle_62 rfl rfl ?_
                    refine G_aload_n (pc := 63) 0 0 dX7_settle_63 rfl rfl ?_
                    refine G_iload (pc := 64) 4 dX7_settle_64 rfl ?_
                    refine G_aload_n (pc := 66) 0 0 dX7_settle_66 rfl rfl ?_
                    refine G_getf (pc := 67) fl_X7_69 dX7_settle_67 mg_40 rfl ?_
                    refine G_iload_n (pc := 70) 3 3 dX7_settle_70 rfl rfl ?_
                    refine G_iald (pc := 71) dX7_settle_71 mg_65 ⟨by omega, by omega, by omega, by omega⟩ ?_
                    have hb71 := hT3V.b65 (v32)
                    refine G_callVd (pc := 72) gk_X7_113 dX7_settle_72 mg_40 rfl (c_X7_messageAt (Q := Q) (by first | assumption | omega | exact ⟨by omega, by omega⟩ | exact hS _ _ | exact hT _ _) (by first | assumption | omega | exact ⟨by omega, by omega⟩ | exact hS _ _ | exact hT _ _) (by first | assumption | omega | exact ⟨by omega, by omega⟩ | exact hS _ _ | exact hT _ _)) rfl rfl (Nat.le_of_ble_eq_true rfl) ⟨⟨Nat.le_of_ble_eq_true rfl, Nat.le_of_ble_eq_true rfl⟩, Nat.le_of_ble_eq_true rfl, Nat.le_of_ble_eq_true rfl⟩ ?_
                    have hb72 := hT3V.b59 (v43 * 80 + (T3 (65, 0, 0, 0) v32))
                    refine G_callVd (pc := 75) gk_X7_121 dX7_settle_75 mg_40 rfl (c_X7_isBehind (Q := Q) (by first | assumption | omega | exact ⟨by omega, by omega⟩ | exact hS _ _ | exact hT _ _) (by first | assumption | omega | exact ⟨by omega, by omega⟩ | exact hS _ _ | exact hT _ _) (by first | assumption | omega | exact ⟨by omega, by omega⟩ | exact hS _ _ | exact hT _ _) (by first | assumption | omega | exact ⟨by omega, by omega⟩ | exact hS _ _ | exact hT _ _)) rfl rfl (Nat.le_of_ble_eq_true rfl) ⟨⟨Nat.le_of_ble_eq_true rfl, Nat.le_of_ble_eq_true rfl⟩, Nat.le_of_ble_eq_true rfl, Nat.le_of_ble_eq_true rfl⟩ ?_
                    refine G_if_eq_b (pc := 78) 94 dX7_settle_78 (by decide) (fun c78 => ?_) (fun c78 => ?_)
                    · have hz6 : ¬ mmc Q g p T3 := fun h => c78 (by have h2 := h.2; rw [← hw, ← e32] at h2; exact h2)
                      have hz7 : T3 = mm1 Q g p T2 := by rw [← hz3]; unfold mm1; rw [mmk_stop _ hz6]
                      refine G_aload_n (pc := 94) 0 0 dX7_settle_94 rfl rfl ?_
                      refine G_getf (pc := 95) fl_X7_72 dX7_settle_95 mg_40 rfl ?_
                      refine G_iload_n (pc := 98) 3 3 dX7_settle_98 rfl rfl ?_
                      refine G_aload_n (pc := 99) 0 0 dX7_settle_99 rfl rfl ?_
                      refine G_getf (pc := 100) fl_X7_72 dX7_settle_100 mg_40 rfl ?_
                      refine G_iload_n (pc := 103) 3 3 dX7_settle_103 rfl rfl ?_
                      refine G_iald (pc := 104) dX7_settle_104 mg_66 ⟨by omega, by omega, by omega, by omega⟩ ?_
                      have hb104 := hT3V.b66 (v32)
                      refine G_aload_n (pc := 105) 0 0 dX7_settle_105 rfl rfl ?_
                      refine G_getf (pc := 106) fl_X7_69 dX7_settle_106 mg_40 rfl ?_
                      refine G_iload_n (pc := 109) 3 3 dX7_settle_109 rfl rfl ?_
                      refine G_iald (pc := 110) dX7_settle_110 mg_65 ⟨by omega, by omega, by omega, by omega⟩ ?_
                      have hb110 := hT3V.b65 (v32)
                      refine G_mmax (pc := 111) mx_X7_125 dX7_settle_111 (by first | exact hS _ _ | exact hT _ _ | exact ⟨by omega, by omega⟩ | assumption | exact zWM.r (by assumption) _ _ (by decide)) (by first | exact hS _ _ | exact hT _ _ | exact ⟨by omega, by omega⟩ | assumption | exact zWM.r (by assumption) _ _ (by decide)) ⟨⟨Nat.le_of_ble_eq_true rfl, Nat.le_of_ble_eq_true rfl⟩, Nat.le_of_ble_eq_true rfl, Nat.le_of_ble_eq_true rfl⟩ ?_
                      refine G_iast (pc := 114) dX7_settle_114 mg_66 ⟨by omega, by omega, by omega, by omega⟩ (mp_66 _ _) ?_
                      refine G_name (fun S2_114 hS2_114 => ?_)
                      have hVS2_114 : zWM Q S2_114 := by rw [hS2_114]; exact hT3V.s66 ⟨by omega, by omega⟩
                      have hz4 : mse Q g p T2 = S2_114 := by rw [hS2_114, e32]; unfold mse; rw [← hz7]
                      refine G_iinc_e (pc := 115) 2 (fun zw => [(2, .int (zI zw)), (0, .ref (ad (40, 0, 0, 0))), (1, .int (zI g)), (3, .int (zI v32)), (4, .int (zI v43))]) dX7_settle_115 rfl (by decide) (fun _ => rfl) (fun v115 e115 => ?_)
                      refine G_goto (pc := 118) 12 dX7_settle_118 (by decide) ?_
                      refine G_perm (lv' := [(0, .ref (ad (40, 0, 0, 0))), (1, .int (zI g)), (2, .int (zI v115))]) [1, 2, 0] rfl ?_
                      exact ih12 v115 S2_114 ⟨by omega, by rw [e115, ← hz2, lp_step (a := p) (n := Q 1 (Q 4 g 0) 0) (by omega), hz4], by rw [← hz4]; exact mse_W hT2V hg hp⟩ (by omega)
                    · refine G_aload_n (pc := 81) 0 0 dX7_settle_81 rfl rfl ?_
                      refine G_getf (pc := 82) fl_X7_69 dX7_settle_82 mg_40 rfl ?_
                      refine G_iload_n (pc := 85) 3 3 dX7_settle_85 rfl rfl ?_
                      refine G_dup2 (pc := 86) dX7_settle_86 rfl rfl ?_
                      refine G_iald (pc := 87) dX7_settle_87 mg_65 ⟨by omega, by omega, by omega, by omega⟩ ?_
                      have hb87 := hT3V.b65 (v32)
                      refine G_iconst (pc := 88) dX7_settle_88 ?_
                      refine G_iadd (pc := 89) dX7_settle_89 ?_
                      refine G_iast (pc := 90) dX7_settle_90 mg_65 ⟨by omega, by omega, by omega, by omega⟩ (mp_65 _ _) ?_
                      refine G_name (fun S3_90 hS3_90 => ?_)
                      have hVS3_90 : zWM Q S3_90 := by rw [hS3_90]; exact hT3V.s65 ⟨by omega, by omega⟩
                      have hz8 : S3_90 (65, 0, 0, 0) (g * 4 + p) = T3 (65, 0, 0, 0) (g * 4 + p) + 1 := by rw [hS3_90, e32, zst_s]
                      refine G_goto (pc := 91) 45 dX7_settle_91 (by decide) ?_
                      refine G_perm (lv' := [(0, .ref (ad (40, 0, 0, 0))), (1, .int (zI g)), (2, .int (zI p)), (3, .int (zI v32)), (4, .int (zI v43))]) [0, 1, 2, 3, 4] rfl ?_
                      exact ih45  S3_90 ⟨by rw [← hz3]; unfold mm1; rw [show (Q 2 (Q 4 g 0) p - T3 (65, 0, 0, 0) (g * 4 + p)).toNat = (Q 2 (Q 4 g 0) p - S3_90 (65, 0, 0, 0) (g * 4 + p)).toNat + 1 by omega, mmk_go _ ⟨by omega, by rw [← hw, ← e32]; exact c78⟩, hS3_90, e32], by assumption⟩ (by omega)
              refine G_perm (lv' := [(0, .ref (ad (40, 0, 0, 0))), (1, .int (zI g)), (2, .int (zI p)), (3, .int (zI v32)), (4, .int (zI v43))]) [2, 3, 4, 1, 0] rfl ?_
              exact L45 _  T2 ⟨rfl, hT2V⟩ (Nat.lt_succ_self _)
        refine G_perm (lv' := [(0, .ref (ad (40, 0, 0, 0))), (1, .int (zI g)), (2, .int (zI v11))]) [1, 2, 0] rfl ?_
        exact L12 _ v11 T ⟨by omega, by rw [e11]; rfl, hTV⟩ (Nat.lt_succ_self _)
  refine G_perm (lv' := [(0, .ref (ad (40, 0, 0, 0))), (1, .int (zI v1))]) [1, 0] rfl ?_
  exact L2 _ v1 S ⟨by omega, by rw [e1]; rfl, hV⟩ (Nat.lt_succ_self _)
