set_option maxHeartbeats 4000000 in
set_option maxRecDepth 100000 in
theorem c_X7_clock {l : Launch} {Δ : zDl} {ad : zK → Nat} {P : zP} {S : zS} {X : zMem} {Q : zP}  (hV : zWM Q S) : zMn l Δ yX7_clock cX7_clock 1 (some .int) 9 0 0 [.ref (ad (40, 0, 0, 0))] ad (mm Δ ad P S X) (zD (some (.int (zI (S (40, 0, 0, 0) 1)))) ad (mm Δ ad P (zst S (40, 0, 0, 0) 0 0) X)) := by
  refine zMn_of (by decide) (Nat.le_of_ble_eq_true rfl) (fun Γ hl hΔ hF => ?_)
  subst hl hΔ
  show G Γ _ _ _ RX7 _ _ _ _ _ [(0, .ref (ad (40, 0, 0, 0)))] []
  have hq := hV.q
  refine G_aload_n (pc := 0) 0 0 dX7_clock_0 rfl rfl ?_
  refine G_aload_n (pc := 1) 0 0 dX7_clock_1 rfl rfl ?_
  refine G_getf (pc := 2) fl_X7_143 dX7_clock_2 mg_40 rfl ?_
  have hb2 := hV.f1
  refine G_callVd (pc := 5) gk_X7_175 dX7_clock_5 mg_40 rfl (c_X7_ok (Q := Q) (by first | assumption | omega | exact ⟨by omega, by omega⟩ | exact hS _ _ | exact hT _ _)) rfl rfl (Nat.le_of_ble_eq_true rfl) ⟨⟨Nat.le_of_ble_eq_true rfl, Nat.le_of_ble_eq_true rfl⟩, Nat.le_of_ble_eq_true rfl, Nat.le_of_ble_eq_true rfl⟩ ?_
  refine G_name (fun S1_5 hS1_5 => ?_)
  have hVS1_5 : zWM Q S1_5 := by rw [hS1_5]; exact hV.s40_0 (by exact ⟨by omega, by omega⟩)
  exact G_iret_m (pc := 8) hF dX7_clock_8 ⟨Nat.le_of_ble_eq_true rfl, Nat.le_of_ble_eq_true rfl⟩ (by first | rfl | omega | simp_all) (by rw [hS1_5])
set_option maxHeartbeats 4000000 in
set_option maxRecDepth 100000 in
theorem c_X7_topics {l : Launch} {Δ : zDl} {ad : zK → Nat} {P : zP} {S : zS} {X : zMem} {Q : zP}  (hV : zWM Q S) : zMn l Δ yX7_topics cX7_topics 1 (some .int) 9 0 0 [.ref (ad (40, 0, 0, 0))] ad (mm Δ ad P S X) (zD (some (.int (zI (S (40, 0, 0, 0) 4)))) ad (mm Δ ad P (zst S (40, 0, 0, 0) 0 0) X)) := by
  refine zMn_of (by decide) (Nat.le_of_ble_eq_true rfl) (fun Γ hl hΔ hF => ?_)
  subst hl hΔ
  show G Γ _ _ _ RX7 _ _ _ _ _ [(0, .ref (ad (40, 0, 0, 0)))] []
  have hq := hV.q
  refine G_aload_n (pc := 0) 0 0 dX7_topics_0 rfl rfl ?_
  refine G_aload_n (pc := 1) 0 0 dX7_topics_1 rfl rfl ?_
  refine G_getf (pc := 2) fl_X7_96 dX7_topics_2 mg_40 rfl ?_
  refine G_callVd (pc := 5) gk_X7_175 dX7_topics_5 mg_40 rfl (c_X7_ok (Q := Q) (by first | assumption | omega | exact ⟨by omega, by omega⟩ | exact hS _ _ | exact hT _ _)) rfl rfl (Nat.le_of_ble_eq_true rfl) ⟨⟨Nat.le_of_ble_eq_true rfl, Nat.le_of_ble_eq_true rfl⟩, Nat.le_of_ble_eq_true rfl, Nat.le_of_ble_eq_true rfl⟩ ?_
  refine G_name (fun S1_5 hS1_5 => ?_)
  have hVS1_5 : zWM Q S1_5 := by rw [hS1_5]; exact hV.s40_0 (by exact ⟨by omega, by omega⟩)
  exact G_iret_m (pc := 8) hF dX7_topics_8 ⟨Nat.le_of_ble_eq_true rfl, Nat.le_of_ble_eq_true rfl⟩ (by first | rfl | omega | simp_all) (by rw [hS1_5])
set_option maxHeartbeats 4000000 in
set_option maxRecDepth 100000 in
theorem c_X7_groups {l : Launch} {Δ : zDl} {ad : zK → Nat} {P : zP} {S : zS} {X : zMem} {Q : zP}  (hV : zWM Q S) : zMn l Δ yX7_groups cX7_groups 1 (some .int) 9 0 0 [.ref (ad (40, 0, 0, 0))] ad (mm Δ ad P S X) (zD (some (.int (zI (S (40, 0, 0, 0) 23)))) ad (mm Δ ad P (zst S (40, 0, 0, 0) 0 0) X)) := by
  refine zMn_of (by decide) (Nat.le_of_ble_eq_true rfl) (fun Γ hl hΔ hF => ?_)
  subst hl hΔ
  show G Γ _ _ _ RX7 _ _ _ _ _ [(0, .ref (ad (40, 0, 0, 0)))] []
  have hq := hV.q
  refine G_aload_n (pc := 0) 0 0 dX7_groups_0 rfl rfl ?_
  refine G_aload_n (pc := 1) 0 0 dX7_groups_1 rfl rfl ?_
  refine G_getf (pc := 2) fl_X7_107 dX7_groups_2 mg_40 rfl ?_
  refine G_callVd (pc := 5) gk_X7_175 dX7_groups_5 mg_40 rfl (c_X7_ok (Q := Q) (by first | assumption | omega | exact ⟨by omega, by omega⟩ | exact hS _ _ | exact hT _ _)) rfl rfl (Nat.le_of_ble_eq_true rfl) ⟨⟨Nat.le_of_ble_eq_true rfl, Nat.le_of_ble_eq_true rfl⟩, Nat.le_of_ble_eq_true rfl, Nat.le_of_ble_eq_true rfl⟩ ?_
  refine G_name (fun S1_5 hS1_5 => ?_)
  have hVS1_5 : zWM Q S1_5 := by rw [hS1_5]; exact hV.s40_0 (by exact ⟨by omega, by omega⟩)
  exact G_iret_m (pc := 8) hF dX7_groups_8 ⟨Nat.le_of_ble_eq_true rfl, Nat.le_of_ble_eq_true rfl⟩ (by first | rfl | omega | simp_all) (by rw [hS1_5])
set_option maxHeartbeats 4000000 in
set_option maxRecDepth 100000 in
theorem c_X7_ledger {l : Launch} {Δ : zDl} {ad : zK → Nat} {P : zP} {S : zS} {X : zMem} {Q : zP}  (hV : zWM Q S) : zMn l Δ yX7_ledger cX7_ledger 1 (some .int) 9 0 0 [.ref (ad (40, 0, 0, 0))] ad (mm Δ ad P S X) (zD (some (.int (zI (S (40, 0, 0, 0) 32)))) ad (mm Δ ad P (zst S (40, 0, 0, 0) 0 0) X)) := by
  refine zMn_of (by decide) (Nat.le_of_ble_eq_true rfl) (fun Γ hl hΔ hF => ?_)
  subst hl hΔ
  show G Γ _ _ _ RX7 _ _ _ _ _ [(0, .ref (ad (40, 0, 0, 0)))] []
  have hq := hV.q
  refine G_aload_n (pc := 0) 0 0 dX7_ledger_0 rfl rfl ?_
  refine G_aload_n (pc := 1) 0 0 dX7_ledger_1 rfl rfl ?_
  refine G_getf (pc := 2) fl_X7_207 dX7_ledger_2 mg_40 rfl ?_
  have hb2 := hV.f32
  refine G_callVd (pc := 5) gk_X7_175 dX7_ledger_5 mg_40 rfl (c_X7_ok (Q := Q) (by first | assumption | omega | exact ⟨by omega, by omega⟩ | exact hS _ _ | exact hT _ _)) rfl rfl (Nat.le_of_ble_eq_true rfl) ⟨⟨Nat.le_of_ble_eq_true rfl, Nat.le_of_ble_eq_true rfl⟩, Nat.le_of_ble_eq_true rfl, Nat.le_of_ble_eq_true rfl⟩ ?_
  refine G_name (fun S1_5 hS1_5 => ?_)
  have hVS1_5 : zWM Q S1_5 := by rw [hS1_5]; exact hV.s40_0 (by exact ⟨by omega, by omega⟩)
  exact G_iret_m (pc := 8) hF dX7_ledger_8 ⟨Nat.le_of_ble_eq_true rfl, Nat.le_of_ble_eq_true rfl⟩ (by first | rfl | omega | simp_all) (by rw [hS1_5])
set_option maxHeartbeats 4000000 in
set_option maxRecDepth 100000 in
theorem c_X7_ofPlace_47 {l : Launch} {Δ : zDl} {ad : zK → Nat} {P : zP} {S : zS} {X : zMem} {Q : zP} {t p : Int} (hV : zWM Q S) (ht : 0 ≤ t ∧ t < Q 0 0 0) (hp : 0 ≤ p ∧ p < Q 1 t 0) : zMn l Δ yX7_ofPlace cX7_ofPlace 4 (some .int) 5 0 0 [.ref (ad (40, 0, 0, 0)), .int (zI t), .int (zI p), .ref (ad (47, 0, 0, 0))] ad (mm Δ ad P S X) (zD (some (.int (zI ((zst S (40, 0, 0, 0) 0 0) (47, 0, 0, 0) (t * 4 + p))))) ad (mm Δ ad P (zst S (40, 0, 0, 0) 0 0) X)) := by
  refine zMn_of (by decide) (Nat.le_of_ble_eq_true rfl) (fun Γ hl hΔ hF => ?_)
  subst hl hΔ
  show G Γ _ _ _ RX7 _ _ _ _ _ [(0, .ref (ad (40, 0, 0, 0))), (1, .int (zI t)), (2, .int (zI p)), (3, .ref (ad (47, 0, 0, 0)))] []
  have hq := hV.q
  have hqt := hV.qt ht
  have hpn := hV.pn ht
  have hqm := hV.qm ht hp
  have hen := hV.en ht hp
  refine G_aload_n (pc := 0) 0 0 dX7_ofPlace_0 rfl rfl ?_
  refine G_iconst (pc := 1) dX7_ofPlace_1 ?_
  refine G_putf (pc := 2) fl_X7_93 fp_X7_0 dX7_ofPlace_2 mg_40 (Nat.le_of_ble_eq_true rfl) rfl rfl (mp_40_0 _) ?_
  refine G_name (fun S1_2 hS1_2 => ?_)
  have hVS1_2 : zWM Q S1_2 := by rw [hS1_2]; exact hV.s40_0 (by first | assumption | exact ⟨by omega, by omega⟩)
  refine G_aload_n (pc := 5) 0 0 dX7_ofPlace_5 rfl rfl ?_
  refine G_iload_n (pc := 6) 1 1 dX7_ofPlace_6 rfl rfl ?_
  refine G_iload_n (pc := 7) 2 2 dX7_ofPlace_7 rfl rfl ?_
  refine G_callVd (pc := 8) gk_X7_178 dX7_ofPlace_8 mg_40 rfl (c_X7_isPartition (Q := Q) (by first | assumption | omega | exact ⟨by omega, by omega⟩ | exact hS _ _ | exact hT _ _) (by first | assumption | omega | exact ⟨by omega, by omega⟩ | exact hS _ _ | exact hT _ _) (by first | assumption | omega | exact ⟨by omega, by omega⟩ | exact hS _ _ | exact hT _ _)) rfl rfl (Nat.le_of_ble_eq_true rfl) ⟨⟨Nat.le_of_ble_eq_true rfl, Nat.le_of_ble_eq_true rfl⟩, Nat.le_of_ble_eq_true rfl, Nat.le_of_ble_eq_true rfl⟩ ?_
  refine G_if_eq_b (pc := 11) 24 dX7_ofPlace_11 (by decide) (fun c11 => ?_) (fun c11 => ?_)
  · exfalso
    omega
  · refine G_aload_n (pc := 14) 3 3 dX7_ofPlace_14 rfl rfl ?_
    refine G_iload_n (pc := 15) 1 1 dX7_ofPlace_15 rfl rfl ?_
    refine G_iconst (pc := 16) dX7_ofPlace_16 ?_
    refine G_imul (pc := 17) dX7_ofPlace_17 ?_
    refine G_iload_n (pc := 18) 2 2 dX7_ofPlace_18 rfl rfl ?_
    refine G_iadd (pc := 19) dX7_ofPlace_19 ?_
    refine G_iald (pc := 20) dX7_ofPlace_20 mg_47 ⟨by omega, by omega, by omega, by omega⟩ ?_
    have hb20 := hVS1_2.b47 ((t * 4) + p)
    refine G_goto (pc := 21) 29 dX7_ofPlace_21 (by decide) ?_
    exact G_iret_m (pc := 29) hF dX7_ofPlace_29 ⟨Nat.le_of_ble_eq_true rfl, Nat.le_of_ble_eq_true rfl⟩ (by rw [hS1_2]) (by rw [hS1_2])
set_option maxHeartbeats 4000000 in
set_option maxRecDepth 100000 in
theorem c_X7_start {l : Launch} {Δ : zDl} {ad : zK → Nat} {P : zP} {S : zS} {X : zMem} {Q : zP} {t p : Int} (hV : zWM Q S) (ht : 0 ≤ t ∧ t < Q 0 0 0) (hp : 0 ≤ p ∧ p < Q 1 t 0) : zMn l Δ yX7_start cX7_start 3 (some .int) 9 0 0 [.ref (ad (40, 0, 0, 0)), .int (zI t), .int (zI p)] ad (mm Δ ad P S X) (zD (some (.int (zI ((zst S (40, 0, 0, 0) 0 0) (47, 0, 0, 0) (t * 4 + p))))) ad (mm Δ ad P (zst S (40, 0, 0, 0) 0 0) X)) := by
  refine zMn_of (by decide) (Nat.le_of_ble_eq_true rfl) (fun Γ hl hΔ hF => ?_)
  subst hl hΔ
  show G Γ _ _ _ RX7 _ _ _ _ _ [(0, .ref (ad (40, 0, 0, 0))), (1, .int (zI t)), (2, .int (zI p))] []
  have hq := hV.q
  refine G_aload_n (pc := 0) 0 0 dX7_start_0 rfl rfl ?_
  refine G_iload_n (pc := 1) 1 1 dX7_start_1 rfl rfl ?_
  refine G_iload_n (pc := 2) 2 2 dX7_start_2 rfl rfl ?_
  refine G_aload_n (pc := 3) 0 0 dX7_start_3 rfl rfl ?_
  refine G_getf (pc := 4) fl_X7_23 dX7_start_4 mg_40 rfl ?_
  refine G_callVd (pc := 7) gk_X7_181 dX7_start_7 mg_40 rfl (c_X7_ofPlace_47 (Q := Q) (by first | assumption | omega | exact ⟨by omega, by omega⟩ | exact hS _ _ | exact hT _ _) (by first | assumption | omega | exact ⟨by omega, by omega⟩ | exact hS _ _ | exact hT _ _) (by first | assumption | omega | exact ⟨by omega, by omega⟩ | exact hS _ _ | exact hT _ _)) rfl rfl (Nat.le_of_ble_eq_true rfl) ⟨⟨Nat.le_of_ble_eq_true rfl, Nat.le_of_ble_eq_true rfl⟩, Nat.le_of_ble_eq_true rfl, Nat.le_of_ble_eq_true rfl⟩ ?_
  refine G_name (fun S1_7 hS1_7 => ?_)
  exact G_iret_m (pc := 10) hF dX7_start_10 ⟨Nat.le_of_ble_eq_true rfl, Nat.le_of_ble_eq_true rfl⟩ (by first | rfl | omega | simp_all) (by rw [hS1_7])
set_option maxHeartbeats 4000000 in
set_option maxRecDepth 100000 in
theorem c_X7_ofPlace_47_x {l : Launch} {Δ : zDl} {ad : zK → Nat} {P : zP} {S : zS} {X : zMem} {Q : zP} {t p : Int} (hV : zWM Q S) (hrt : zR t) (hrp : zR p) (hn : ¬ ((0 ≤ t ∧ t < Q 0 0 0) ∧ (0 ≤ p ∧ p < Q 1 t 0))) : zMn l Δ yX7_ofPlace cX7_ofPlace 4 (some .int) 5 0 0 [.ref (ad (40, 0, 0, 0)), .int (zI t), .int (zI p), .ref (ad (47, 0, 0, 0))] ad (mm Δ ad P S X) (zD (some (.int (zI 0))) ad (mm Δ ad P (zst S (40, 0, 0, 0) 0 1) X)) := by
  refine zMn_of (by decide) (Nat.le_of_ble_eq_true rfl) (fun Γ hl hΔ hF => ?_)
  subst hl hΔ
  show G Γ _ _ _ RX7 _ _ _ _ _ [(0, .ref (ad (40, 0, 0, 0))), (1, .int (zI t)), (2, .int (zI p)), (3, .ref (ad (47, 0, 0, 0)))] []
  refine G_aload_n (pc := 0) 0 0 dX7_ofPlace_0 rfl rfl ?_
  refine G_iconst (pc := 1) dX7_ofPlace_1 ?_
  refine G_putf (pc := 2) fl_X7_93 fp_X7_0 dX7_ofPlace_2 mg_40 (Nat.le_of_ble_eq_true rfl) rfl rfl (mp_40_0 _) ?_
  refine G_name (fun S1_2 hS1_2 => ?_)
  have hVS1_2 : zWM Q S1_2 := by rw [hS1_2]; exact hV.s40_0 (by first | assumption | exact ⟨by omega, by omega⟩)
  refine G_aload_n (pc := 5) 0 0 dX7_ofPlace_5 rfl rfl ?_
  refine G_iload_n (pc := 6) 1 1 dX7_ofPlace_6 rfl rfl ?_
  refine G_iload_n (pc := 7) 2 2 dX7_ofPlace_7 rfl rfl ?_
  refine G_callVd (pc := 8) gk_X7_178 dX7_ofPlace_8 mg_40 rfl (c_X7_isPartition (Q := Q) (by first | assumption | omega | exact ⟨by omega, by omega⟩ | exact hS _ _ | exact hT _ _) (by first | assumption | omega | exact ⟨by omega, by omega⟩ | exact hS _ _ | exact hT _ _) (by first | assumption | omega | exact ⟨by omega, by omega⟩ | exact hS _ _ | exact hT _ _)) rfl rfl (Nat.le_of_ble_eq_true rfl) ⟨⟨Nat.le_of_ble_eq_true rfl, Nat.le_of_ble_eq_true rfl⟩, Nat.le_of_ble_eq_true rfl, Nat.le_of_ble_eq_true rfl⟩ ?_
  refine G_if_eq_b (pc := 11) 24 dX7_ofPlace_11 (by decide) (fun c11 => ?_) (fun c11 => ?_)
  · refine G_aload_n (pc := 24) 0 0 dX7_ofPlace_24 rfl rfl ?_
    refine G_iconst (pc := 25) dX7_ofPlace_25 ?_
    refine G_callVd (pc := 26) gk_X7_134 dX7_ofPlace_26 mg_40 rfl (c_X7_no (Q := Q) (by first | assumption | omega | exact ⟨by omega, by omega⟩ | exact hS _ _ | exact hT _ _) (by first | assumption | omega | exact ⟨by omega, by omega⟩ | exact hS _ _ | exact hT _ _)) rfl rfl (Nat.le_of_ble_eq_true rfl) ⟨⟨Nat.le_of_ble_eq_true rfl, Nat.le_of_ble_eq_true rfl⟩, Nat.le_of_ble_eq_true rfl, Nat.le_of_ble_eq_true rfl⟩ ?_
    refine G_name (fun S2_26 hS2_26 => ?_)
    have hVS2_26 : zWM Q S2_26 := by rw [hS2_26]; exact hVS1_2.s40_0 (by first | assumption | exact ⟨by omega, by omega⟩)
    exact G_iret_m (pc := 29) hF dX7_ofPlace_29 ⟨Nat.le_of_ble_eq_true rfl, Nat.le_of_ble_eq_true rfl⟩ (by first | rfl | omega | simp_all) (by rw [hS2_26, hS1_2, zst_zst])
  · exfalso
    exact hn c11
set_option maxHeartbeats 4000000 in
set_option maxRecDepth 100000 in
theorem c_X7_start_x {l : Launch} {Δ : zDl} {ad : zK → Nat} {P : zP} {S : zS} {X : zMem} {Q : zP} {t p : Int} (hV : zWM Q S) (hrt : zR t) (hrp : zR p) (hn : ¬ ((0 ≤ t ∧ t < Q 0 0 0) ∧ (0 ≤ p ∧ p < Q 1 t 0))) : zMn l Δ yX7_start cX7_start 3 (some .int) 9 0 0 [.ref (ad (40, 0, 0, 0)), .int (zI t), .int (zI p)] ad (mm Δ ad P S X) (zD (some (.int (zI 0))) ad (mm Δ ad P (zst S (40, 0, 0, 0) 0 1) X)) := by
  refine zMn_of (by decide) (Nat.le_of_ble_eq_true rfl) (fun Γ hl hΔ hF => ?_)
  subst hl hΔ
  show G Γ _ _ _ RX7 _ _ _ _ _ [(0, .ref (ad (40, 0, 0, 0))), (1, .int (zI t)), (2, .int (zI p))] []
  have hq := hV.q
  refine G_aload_n (pc := 0) 0 0 dX7_start_0 rfl rfl ?_
  refine G_iload_n (pc := 1) 1 1 dX7_start_1 rfl rfl ?_
  refine G_iload_n (pc := 2) 2 2 dX7_start_2 rfl rfl ?_
  refine G_aload_n (pc := 3) 0 0 dX7_start_3 rfl rfl ?_
  refine G_getf (pc := 4) fl_X7_23 dX7_start_4 mg_40 rfl ?_
  refine G_callVd (pc := 7) gk_X7_181 dX7_start_7 mg_40 rfl (c_X7_ofPlace_47_x (Q := Q) (by first | assumption | omega | exact ⟨by omega, by omega⟩ | exact hS _ _ | exact hT _ _) (by first | assumption | omega | exact ⟨by omega, by omega⟩ | exact hS _ _ | exact hT _ _) (by first | assumption | omega | exact ⟨by omega, by omega⟩ | exact hS _ _ | exact hT _ _) (by first | assumption | omega | exact ⟨by omega, by omega⟩ | exact hS _ _ | exact hT _ _)) rfl rfl (Nat.le_of_ble_eq_true rfl) ⟨⟨Nat.le_of_ble_eq_true rfl, Nat.le_of_ble_eq_true rfl⟩, Nat.le_of_ble_eq_true rfl, Nat.le_of_ble_eq_true rfl⟩ ?_
  refine G_name (fun S1_7 hS1_7 => ?_)
  exact G_iret_m (pc := 10) hF dX7_start_10 ⟨Nat.le_of_ble_eq_true rfl, Nat.le_of_ble_eq_true rfl⟩ (by first | rfl | omega | simp_all) (by rw [hS1_7])
set_option maxHeartbeats 4000000 in
set_option maxRecDepth 100000 in
theorem c_X7_ofPlace_48 {l : Launch} {Δ : zDl} {ad : zK → Nat} {P : zP} {S : zS} {X : zMem} {Q : zP} {t p : Int} (hV : zWM Q S) (ht : 0 ≤ t ∧ t < Q 0 0 0) (hp : 0 ≤ p ∧ p < Q 1 t 0) : zMn l Δ yX7_ofPlace cX7_ofPlace 4 (some .int) 5 0 0 [.ref (ad (40, 0, 0, 0)), .int (zI t), .int (zI p), .ref (ad (48, 0, 0, 0))] ad (mm Δ ad P S X) (zD (some (.int (zI ((zst S (40, 0, 0, 0) 0 0) (48, 0, 0, 0) (t * 4 + p))))) ad (mm Δ ad P (zst S (40, 0, 0, 0) 0 0) X)) := by
  refine zMn_of (by decide) (Nat.le_of_ble_eq_true rfl) (fun Γ hl hΔ hF => ?_)
  subst hl hΔ
  show G Γ _ _ _ RX7 _ _ _ _ _ [(0, .ref (ad (40, 0, 0, 0))), (1, .int (zI t)), (2, .int (zI p)), (3, .ref (ad (48, 0, 0, 0)))] []
  have hq := hV.q
  have hqt := hV.qt ht
  have hpn := hV.pn ht
  have hqm := hV.qm ht hp
  have hen := hV.en ht hp
  refine G_aload_n (pc := 0) 0 0 dX7_ofPlace_0 rfl rfl ?_
  refine G_iconst (pc := 1) dX7_ofPlace_1 ?_
  refine G_putf (pc := 2) fl_X7_93 fp_X7_0 dX7_ofPlace_2 mg_40 (Nat.le_of_ble_eq_true rfl) rfl rfl (mp_40_0 _) ?_
  refine G_name (fun S1_2 hS1_2 => ?_)
  have hVS1_2 : zWM Q S1_2 := by rw [hS1_2]; exact hV.s40_0 (by first | assumption | exact ⟨by omega, by omega⟩)
  refine G_aload_n (pc := 5) 0 0 dX7_ofPlace_5 rfl rfl ?_
  refine G_iload_n (pc := 6) 1 1 dX7_ofPlace_6 rfl rfl ?_
  refine G_iload_n (pc := 7) 2 2 dX7_ofPlace_7 rfl rfl ?_
  refine G_callVd (pc := 8) gk_X7_178 dX7_ofPlace_8 mg_40 rfl (c_X7_isPartition (Q := Q) (by first | assumption | omega | exact ⟨by omega, by omega⟩ | exact hS _ _ | exact hT _ _) (by first | assumption | omega | exact ⟨by omega, by omega⟩ | exact hS _ _ | exact hT _ _) (by first | assumption | omega | exact ⟨by omega, by omega⟩ | exact hS _ _ | exact hT _ _)) rfl rfl (Nat.le_of_ble_eq_true rfl) ⟨⟨Nat.le_of_ble_eq_true rfl, Nat.le_of_ble_eq_true rfl⟩, Nat.le_of_ble_eq_true rfl, Nat.le_of_ble_eq_true rfl⟩ ?_
  refine G_if_eq_b (pc := 11) 24 dX7_ofPlace_11 (by decide) (fun c11 => ?_) (fun c11 => ?_)
  · exfalso
    omega
  · refine G_aload_n (pc := 14) 3 3 dX7_ofPlace_14 rfl rfl ?_
    refine G_iload_n (pc := 15) 1 1 dX7_ofPlace_15 rfl rfl ?_
    refine G_iconst (pc := 16) dX7_ofPlace_16 ?_
    refine G_imul (pc := 17) dX7_ofPlace_17 ?_
    refine G_iload_n (pc := 18) 2 2 dX7_ofPlace_18 rfl rfl ?_
    refine G_iadd (pc := 19) dX7_ofPlace_19 ?_
    refine G_iald (pc := 20) dX7_ofPlace_20 mg_48 ⟨by omega, by omega, by omega, by omega⟩ ?_
    have hb20 := hVS1_2.b48 ((t * 4) + p)
    refine G_goto (pc := 21) 29 dX7_ofPlace_21 (by decide) ?_
    exact G_iret_m (pc := 29) hF dX7_ofPlace_29 ⟨Nat.le_of_ble_eq_true rfl, Nat.le_of_ble_eq_true rfl⟩ (by rw [hS1_2]) (by rw [hS1_2])
set_option maxHeartbeats 4000000 in
set_option maxRecDepth 100000 in
theorem c_X7_endOf {l : Launch} {Δ : zDl} {ad : zK → Nat} {P : zP} {S : zS} {X : zMem} {Q : zP} {t p : Int} (hV : zWM Q S) (ht : 0 ≤ t ∧ t < Q 0 0 0) (hp : 0 ≤ p ∧ p < Q 1 t 0) : zMn l Δ yX7_endOf cX7_endOf 3 (some .int) 9 0 0 [.ref (ad (40, 0, 0, 0)), .int (zI t), .int (zI p)] ad (mm Δ ad P S X) (zD (some (.int (zI ((zst S (40, 0, 0, 0) 0 0) (48, 0, 0, 0) (t * 4 + p))))) ad (mm Δ ad P (zst S (40, 0, 0, 0) 0 0) X)) := by
  refine zMn_of (by decide) (Nat.le_of_ble_eq_true rfl) (fun Γ hl hΔ hF => ?_)
  subst hl hΔ
  show G Γ _ _ _ RX7 _ _ _ _ _ [(0, .ref (ad (40, 0, 0, 0))), (1, .int (zI t)), (2, .int (zI p))] []
  have hq := hV.q
  refine G_aload_n (pc := 0) 0 0 dX7_endOf_0 rfl rfl ?_
  refine G_iload_n (pc := 1) 1 1 dX7_endOf_1 rfl rfl ?_
  refine G_iload_n (pc := 2) 2 2 dX7_endOf_2 rfl rfl ?_
  refine G_aload_n (pc := 3) 0 0 dX7_endOf_3 rfl rfl ?_
  refine G_getf (pc := 4) fl_X7_26 dX7_endOf_4 mg_40 rfl ?_
  refine G_callVd (pc := 7) gk_X7_181 dX7_endOf_7 mg_40 rfl (c_X7_ofPlace_48 (Q := Q) (by first | assumption | omega | exact ⟨by omega, by omega⟩ | exact hS _ _ | exact hT _ _) (by first | assumption | omega | exact ⟨by omega, by omega⟩ | exact hS _ _ | exact hT _ _) (by first | assumption | omega | exact ⟨by omega, by omega⟩ | exact hS _ _ | exact hT _ _)) rfl rfl (Nat.le_of_ble_eq_true rfl) ⟨⟨Nat.le_of_ble_eq_true rfl, Nat.le_of_ble_eq_true rfl⟩, Nat.le_of_ble_eq_true rfl, Nat.le_of_ble_eq_true rfl⟩ ?_
  refine G_name (fun S1_7 hS1_7 => ?_)
  exact G_iret_m (pc := 10) hF dX7_endOf_10 ⟨Nat.le_of_ble_eq_true rfl, Nat.le_of_ble_eq_true rfl⟩ (by first | rfl | omega | simp_all) (by rw [hS1_7])
set_option maxHeartbeats 4000000 in
set_option maxRecDepth 100000 in
theorem c_X7_ofPlace_48_x {l : Launch} {Δ : zDl} {ad : zK → Nat} {P : zP} {S : zS} {X : zMem} {Q : zP} {t p : Int} (hV : zWM Q S) (hrt : zR t) (hrp : zR p) (hn : ¬ ((0 ≤ t ∧ t < Q 0 0 0) ∧ (0 ≤ p ∧ p < Q 1 t 0))) : zMn l Δ yX7_ofPlace cX7_ofPlace 4 (some .int) 5 0 0 [.ref (ad (40, 0, 0, 0)), .int (zI t), .int (zI p), .ref (ad (48, 0, 0, 0))] ad (mm Δ ad P S X) (zD (some (.int (zI 0))) ad (mm Δ ad P (zst S (40, 0, 0, 0) 0 1) X)) := by
  refine zMn_of (by decide) (Nat.le_of_ble_eq_true rfl) (fun Γ hl hΔ hF => ?_)
  subst hl hΔ
  show G Γ _ _ _ RX7 _ _ _ _ _ [(0, .ref (ad (40, 0, 0, 0))), (1, .int (zI t)), (2, .int (zI p)), (3, .ref (ad (48, 0, 0, 0)))] []
  refine G_aload_n (pc := 0) 0 0 dX7_ofPlace_0 rfl rfl ?_
  refine G_iconst (pc := 1) dX7_ofPlace_1 ?_
  refine G_putf (pc := 2) fl_X7_93 fp_X7_0 dX7_ofPlace_2 mg_40 (Nat.le_of_ble_eq_true rfl) rfl rfl (mp_40_0 _) ?_
  refine G_name (fun S1_2 hS1_2 => ?_)
  have hVS1_2 : zWM Q S1_2 := by rw [hS1_2]; exact hV.s40_0 (by first | assumption | exact ⟨by omega, by omega⟩)
  refine G_aload_n (pc := 5) 0 0 dX7_ofPlace_5 rfl rfl ?_
  refine G_iload_n (pc := 6) 1 1 dX7_ofPlace_6 rfl rfl ?_
  refine G_iload_n (pc := 7) 2 2 dX7_ofPlace_7 rfl rfl ?_
  refine G_callVd (pc := 8) gk_X7_178 dX7_ofPlace_8 mg_40 rfl (c_X7_isPartition (Q := Q) (by first | assumption | omega | exact ⟨by omega, by omega⟩ | exact hS _ _ | exact hT _ _) (by first | assumption | omega | exact ⟨by omega, by omega⟩ | exact hS _ _ | exact hT _ _) (by first | assumption | omega | exact ⟨by omega, by omega⟩ | exact hS _ _ | exact hT _ _)) rfl rfl (Nat.le_of_ble_eq_true rfl) ⟨⟨Nat.le_of_ble_eq_true rfl, Nat.le_of_ble_eq_true rfl⟩, Nat.le_of_ble_eq_true rfl, Nat.le_of_ble_eq_true rfl⟩ ?_
  refine G_if_eq_b (pc := 11) 24 dX7_ofPlace_11 (by decide) (fun c11 => ?_) (fun c11 => ?_)
  · refine G_aload_n (pc := 24) 0 0 dX7_ofPlace_24 rfl rfl ?_
    refine G_iconst (pc := 25) dX7_ofPlace_25 ?_
    refine G_callVd (pc := 26) gk_X7_134 dX7_ofPlace_26 mg_40 rfl (c_X7_no (Q := Q) (by first | assumption | omega | exact ⟨by omega, by omega⟩ | exact hS _ _ | exact hT _ _) (by first | assumption | omega | exact ⟨by omega, by omega⟩ | exact hS _ _ | exact hT _ _)) rfl rfl (Nat.le_of_ble_eq_true rfl) ⟨⟨Nat.le_of_ble_eq_true rfl, Nat.le_of_ble_eq_true rfl⟩, Nat.le_of_ble_eq_true rfl, Nat.le_of_ble_eq_true rfl⟩ ?_
    refine G_name (fun S2_26 hS2_26 => ?_)
    have hVS2_26 : zWM Q S2_26 := by rw [hS2_26]; exact hVS1_2.s40_0 (by first | assumption | exact ⟨by omega, by omega⟩)
    exact G_iret_m (pc := 29) hF dX7_ofPlace_29 ⟨Nat.le_of_ble_eq_true rfl, Nat.le_of_ble_eq_true rfl⟩ (by first | rfl | omega | simp_all) (by rw [hS2_26, hS1_2, zst_zst])
  · exfalso
    exact hn c11
set_option maxHeartbeats 4000000 in
set_option maxRecDepth 100000 in
theorem c_X7_endOf_x {l : Launch} {Δ : zDl} {ad : zK → Nat} {P : zP} {S : zS} {X : zMem} {Q : zP} {t p : Int} (hV : zWM Q S) (hrt : zR t) (hrp : zR p) (hn : ¬ ((0 ≤ t ∧ t < Q 0 0 0) ∧ (0 ≤ p ∧ p < Q 1 t 0))) : zMn l Δ yX7_endOf cX7_endOf 3 (some .int) 9 0 0 [.ref (ad (40, 0, 0, 0)), .int (zI t), .int (zI p)] ad (mm Δ ad P S X) (zD (some (.int (zI 0))) ad (mm Δ ad P (zst S (40, 0, 0, 0) 0 1) X)) := by
  refine zMn_of (by decide) (Nat.le_of_ble_eq_true rfl) (fun Γ hl hΔ hF => ?_)
  subst hl hΔ
  show G Γ _ _ _ RX7 _ _ _ _ _ [(0, .ref (ad (40, 0, 0, 0))), (1, .int (zI t)), (2, .int (zI p))] []
  have hq := hV.q
  refine G_aload_n (pc := 0) 0 0 dX7_endOf_0 rfl rfl ?_
  refine G_iload_n (pc := 1) 1 1 dX7_endOf_1 rfl rfl ?_
  refine G_iload_n (pc := 2) 2 2 dX7_endOf_2 rfl rfl ?_
  refine G_aload_n (pc := 3) 0 0 dX7_endOf_3 rfl rfl ?_
  refine G_getf (pc := 4) fl_X7_26 dX7_endOf_4 mg_40 rfl ?_
  refine G_callVd (pc := 7) gk_X7_181 dX7_endOf_7 mg_40 rfl (c_X7_ofPlace_48_x (Q := Q) (by first | assumption | omega | exact ⟨by omega, by omega⟩ | exact hS _ _ | exact hT _ _) (by first | assumption | omega | exact ⟨by omega, by omega⟩ | exact hS _ _ | exact hT _ _) (by first | assumption | omega | exact ⟨by omega, by omega⟩ | exact hS _ _ | exact hT _ _) (by first | assumption | omega | exact ⟨by omega, by omega⟩ | exact hS _ _ | exact hT _ _)) rfl rfl (Nat.le_of_ble_eq_true rfl) ⟨⟨Nat.le_of_ble_eq_true rfl, Nat.le_of_ble_eq_true rfl⟩, Nat.le_of_ble_eq_true rfl, Nat.le_of_ble_eq_true rfl⟩ ?_
  refine G_name (fun S1_7 hS1_7 => ?_)
  exact G_iret_m (pc := 10) hF dX7_endOf_10 ⟨Nat.le_of_ble_eq_true rfl, Nat.le_of_ble_eq_true rfl⟩ (by first | rfl | omega | simp_all) (by rw [hS1_7])
set_option maxHeartbeats 4000000 in
set_option maxRecDepth 100000 in
theorem c_X7_stable {l : Launch} {Δ : zDl} {ad : zK → Nat} {P : zP} {S : zS} {X : zMem} {Q : zP} {t p : Int} (hV : zWM Q S) (ht : 0 ≤ t ∧ t < Q 0 0 0) (hp : 0 ≤ p ∧ p < Q 1 t 0) (h61 : Q 61 0 0 = P 61 0 0) : zMn l Δ yX7_stable cX7_stable 3 (some .int) 9 0 0 [.ref (ad (40, 0, 0, 0)), .int (zI t), .int (zI p)] ad (mm Δ ad P S X) (zD (some (.int (zI (mEn (zst S (40, 0, 0, 0) 0 0) (t * 4 + p))))) ad (mm Δ ad P (zst S (40, 0, 0, 0) 0 0) X)) := by
  refine zMn_of (by decide) (Nat.le_of_ble_eq_true rfl) (fun Γ hl hΔ hF => ?_)
  subst hl hΔ
  show G Γ _ _ _ RX7 _ _ _ _ _ [(0, .ref (ad (40, 0, 0, 0))), (1, .int (zI t)), (2, .int (zI p))] []
  have hq := hV.q
  have hqt := hV.qt ht
  have hpn := hV.pn ht
  have hqm := hV.qm ht hp
  have hen := hV.en ht hp
  refine G_aload_n (pc := 0) 0 0 dX7_stable_0 rfl rfl ?_
  refine G_iconst (pc := 1) dX7_stable_1 ?_
  refine G_putf (pc := 2) fl_X7_93 fp_X7_0 dX7_stable_2 mg_40 (Nat.le_of_ble_eq_true rfl) rfl rfl (mp_40_0 _) ?_
  refine G_name (fun S1_2 hS1_2 => ?_)
  have hVS1_2 : zWM Q S1_2 := by rw [hS1_2]; exact hV.s40_0 (by first | assumption | exact ⟨by omega, by omega⟩)
  refine G_aload_n (pc := 5) 0 0 dX7_stable_5 rfl rfl ?_
  refine G_iload_n (pc := 6) 1 1 dX7_stable_6 rfl rfl ?_
  refine G_iload_n (pc := 7) 2 2 dX7_stable_7 rfl rfl ?_
  refine G_callVd (pc := 8) gk_X7_178 dX7_stable_8 mg_40 rfl (c_X7_isPartition (Q := Q) (by first | assumption | omega | exact ⟨by omega, by omega⟩ | exact hS _ _ | exact hT _ _) (by first | assumption | omega | exact ⟨by omega, by omega⟩ | exact hS _ _ | exact hT _ _) (by first | assumption | omega | exact ⟨by omega, by omega⟩ | exact hS _ _ | exact hT _ _)) rfl rfl (Nat.le_of_ble_eq_true rfl) ⟨⟨Nat.le_of_ble_eq_true rfl, Nat.le_of_ble_eq_true rfl⟩, Nat.le_of_ble_eq_true rfl, Nat.le_of_ble_eq_true rfl⟩ ?_
  refine G_if_eq_b (pc := 11) 26 dX7_stable_11 (by decide) (fun c11 => ?_) (fun c11 => ?_)
  · exfalso
    exact c11 ⟨ht, hp⟩
  · refine G_aload_n (pc := 14) 0 0 dX7_stable_14 rfl rfl ?_
    refine G_iload_n (pc := 15) 1 1 dX7_stable_15 rfl rfl ?_
    refine G_iconst (pc := 16) dX7_stable_16 ?_
    refine G_imul (pc := 17) dX7_stable_17 ?_
    refine G_iload_n (pc := 18) 2 2 dX7_stable_18 rfl rfl ?_
    refine G_iadd (pc := 19) dX7_stable_19 ?_
    refine G_callVd (pc := 20) gk_X7_158 dX7_stable_20 mg_40 rfl (c_X7_stableNow (Q := Q) (by first | assumption | omega | exact ⟨by omega, by omega⟩ | exact hS _ _ | exact hT _ _) (by first | assumption | omega | exact ⟨by omega, by omega⟩ | exact hS _ _ | exact hT _ _) (by first | assumption | omega | exact ⟨by omega, by omega⟩ | exact hS _ _ | exact hT _ _)) rfl rfl (Nat.le_of_ble_eq_true rfl) ⟨⟨Nat.le_of_ble_eq_true rfl, Nat.le_of_ble_eq_true rfl⟩, Nat.le_of_ble_eq_true rfl, Nat.le_of_ble_eq_true rfl⟩ ?_
    have hb20 := fi_le (Q := mEq S1_2 ((t * 4) + p)) (a := 0) (n := S1_2 (48, 0, 0, 0) ((t * 4) + p)) (hVS1_2.b48 ((t * 4) + p)).1
    have hb20 : 0 ≤ mEn S1_2 ((t * 4) + p) ∧ mEn S1_2 ((t * 4) + p) ≤ S1_2 (48, 0, 0, 0) ((t * 4) + p) := hb20
    refine G_goto (pc := 23) 31 dX7_stable_23 (by decide) ?_
    exact G_iret_m (pc := 31) hF dX7_stable_31 ⟨Nat.le_of_ble_eq_true rfl, Nat.le_of_ble_eq_true rfl⟩ (by rw [hS1_2]) (by rw [hS1_2])
set_option maxHeartbeats 4000000 in
set_option maxRecDepth 100000 in
theorem c_X7_stable_x {l : Launch} {Δ : zDl} {ad : zK → Nat} {P : zP} {S : zS} {X : zMem} {Q : zP} {t p : Int} (hV : zWM Q S) (h61 : Q 61 0 0 = P 61 0 0) (hrt : zR t) (hrp : zR p) (hn : ¬ ((0 ≤ t ∧ t < Q 0 0 0) ∧ (0 ≤ p ∧ p < Q 1 t 0))) : zMn l Δ yX7_stable cX7_stable 3 (some .int) 9 0 0 [.ref (ad (40, 0, 0, 0)), .int (zI t), .int (zI p)] ad (mm Δ ad P S X) (zD (some (.int (zI 0))) ad (mm Δ ad P (zst S (40, 0, 0, 0) 0 1) X)) := by
  refine zMn_of (by decide) (Nat.le_of_ble_eq_true rfl) (fun Γ hl hΔ hF => ?_)
  subst hl hΔ
  show G Γ _ _ _ RX7 _ _ _ _ _ [(0, .ref (ad (40, 0, 0, 0))), (1, .int (zI t)), (2, .int (zI p))] []
  have hq := hV.q
  refine G_aload_n (pc := 0) 0 0 dX7_stable_0 rfl rfl ?_
  refine G_iconst (pc := 1) dX7_stable_1 ?_
  refine G_putf (pc := 2) fl_X7_93 fp_X7_0 dX7_stable_2 mg_40 (Nat.le_of_ble_eq_true rfl) rfl rfl (mp_40_0 _) ?_
  refine G_name (fun S1_2 hS1_2 => ?_)
  have hVS1_2 : zWM Q S1_2 := by rw [hS1_2]; exact hV.s40_0 (by first | assumption | exact ⟨by omega, by omega⟩)
  refine G_aload_n (pc := 5) 0 0 dX7_stable_5 rfl rfl ?_
  refine G_iload_n (pc := 6) 1 1 dX7_stable_6 rfl rfl ?_
  refine G_iload_n (pc := 7) 2 2 dX7_stable_7 rfl rfl ?_
  refine G_callVd (pc := 8) gk_X7_178 dX7_stable_8 mg_40 rfl (c_X7_isPartition (Q := Q) (by first | assumption | omega | exact ⟨by omega, by omega⟩ | exact hS _ _ | exact hT _ _) (by first | assumption | omega | exact ⟨by omega, by omega⟩ | exact hS _ _ | exact hT _ _) (by first | assumption | omega | exact ⟨by omega, by omega⟩ | exact hS _ _ | exact hT _ _)) rfl rfl (Nat.le_of_ble_eq_true rfl) ⟨⟨Nat.le_of_ble_eq_true rfl, Nat.le_of_ble_eq_true rfl⟩, Nat.le_of_ble_eq_true rfl, Nat.le_of_ble_eq_true rfl⟩ ?_
  refine G_if_eq_b (pc := 11) 26 dX7_stable_11 (by decide) (fun c11 => ?_) (fun c11 => ?_)
  · refine G_aload_n (pc := 26) 0 0 dX7_stable_26 rfl rfl ?_
    refine G_iconst (pc := 27) dX7_stable_27 ?_
    refine G_callVd (pc := 28) gk_X7_134 dX7_stable_28 mg_40 rfl (c_X7_no (Q := Q) (by first | assumption | omega | exact ⟨by omega, by omega⟩ | exact hS _ _ | exact hT _ _) (by first | assumption | omega | exact ⟨by omega, by omega⟩ | exact hS _ _ | exact hT _ _)) rfl rfl (Nat.le_of_ble_eq_true rfl) ⟨⟨Nat.le_of_ble_eq_true rfl, Nat.le_of_ble_eq_true rfl⟩, Nat.le_of_ble_eq_true rfl, Nat.le_of_ble_eq_true rfl⟩ ?_
    refine G_name (fun S2_28 hS2_28 => ?_)
    have hVS2_28 : zWM Q S2_28 := by rw [hS2_28]; exact hVS1_2.s40_0 (by first | assumption | exact ⟨by omega, by omega⟩)
    exact G_iret_m (pc := 31) hF dX7_stable_31 ⟨Nat.le_of_ble_eq_true rfl, Nat.le_of_ble_eq_true rfl⟩ (by first | rfl | omega | simp_all) (by rw [hS2_28, hS1_2, zst_zst])
  · exfalso
    exact hn c11
set_option maxHeartbeats 4000000 in
set_option maxRecDepth 100000 in
theorem c_X7_message {l : Launch} {Δ : zDl} {ad : zK → Nat} {P : zP} {S : zS} {X : zMem} {Q : zP} {t p o w : Int} (hV : zWM Q S) (ht : 0 ≤ t ∧ t < Q 0 0 0) (hp : 0 ≤ p ∧ p < Q 1 t 0) (h61 : Q 61 0 0 = P 61 0 0) (ho : 0 ≤ o ∧ o < Q 2 t p) (hw : 0 ≤ w ∧ w ≤ 4) : zMn l Δ yX7_message cX7_message 5 (some .int) 9 0 0 [.ref (ad (40, 0, 0, 0)), .int (zI t), .int (zI p), .int (zI o), .int (zI w)] ad (mm Δ ad P S X) (zD (some (.int (zI ((if w = 0 then (zst S (40, 0, 0, 0) 0 0) (54, 0, 0, 0) ((zst S (40, 0, 0, 0) 0 0) (59, 0, 0, 0) ((t * 4 + p) * 80 + o)) else if w = 1 then (zst S (40, 0, 0, 0) 0 0) (55, 0, 0, 0) ((zst S (40, 0, 0, 0) 0 0) (59, 0, 0, 0) ((t * 4 + p) * 80 + o)) else if w = 2 then (zst S (40, 0, 0, 0) 0 0) (56, 0, 0, 0) ((zst S (40, 0, 0, 0) 0 0) (59, 0, 0, 0) ((t * 4 + p) * 80 + o)) else if w = 3 then mS (zst S (40, 0, 0, 0) 0 0) ((zst S (40, 0, 0, 0) 0 0) (59, 0, 0, 0) ((t * 4 + p) * 80 + o)) else if (zst S (40, 0, 0, 0) 0 0) (58, 0, 0, 0) ((zst S (40, 0, 0, 0) 0 0) (59, 0, 0, 0) ((t * 4 + p) * 80 + o)) = 0 then 0 else 1))))) ad (mm Δ ad P (zst S (40, 0, 0, 0) 0 0) X)) := by
  refine zMn_of (by decide) (Nat.le_of_ble_eq_true rfl) (fun Γ hl hΔ hF => ?_)
  subst hl hΔ
  show G Γ _ _ _ RX7 _ _ _ _ _ [(0, .ref (ad (40, 0, 0, 0))), (1, .int (zI t)), (2, .int (zI p)), (3, .int (zI o)), (4, .int (zI w))] []
  have hq := hV.q
  have hqt := hV.qt ht
  have hpn := hV.pn ht
  have hqm := hV.qm ht hp
  have hen := hV.en ht hp
  refine G_aload_n (pc := 0) 0 0 dX7_message_0 rfl rfl ?_
  refine G_iconst (pc := 1) dX7_message_1 ?_
  refine G_putf (pc := 2) fl_X7_93 fp_X7_0 dX7_message_2 mg_40 (Nat.le_of_ble_eq_true rfl) rfl rfl (mp_40_0 _) ?_
  refine G_name (fun S1_2 hS1_2 => ?_)
  have hVS1_2 : zWM Q S1_2 := by rw [hS1_2]; exact hV.s40_0 (by first | assumption | exact ⟨by omega, by omega⟩)
  have hen5 := hVS1_2.en ht hp
  refine G_aload_n (pc := 5) 0 0 dX7_message_5 rfl rfl ?_
  refine G_iload_n (pc := 6) 1 1 dX7_message_6 rfl rfl ?_
  refine G_iload_n (pc := 7) 2 2 dX7_message_7 rfl rfl ?_
  refine G_callVd (pc := 8) gk_X7_178 dX7_message_8 mg_40 rfl (c_X7_isPartition (Q := Q) (by first | assumption | omega | exact ⟨by omega, by omega⟩ | exact hS _ _ | exact hT _ _) (by first | assumption | omega | exact ⟨by omega, by omega⟩ | exact hS _ _ | exact hT _ _) (by first | assumption | omega | exact ⟨by omega, by omega⟩ | exact hS _ _ | exact hT _ _)) rfl rfl (Nat.le_of_ble_eq_true rfl) ⟨⟨Nat.le_of_ble_eq_true rfl, Nat.le_of_ble_eq_true rfl⟩, Nat.le_of_ble_eq_true rfl, Nat.le_of_ble_eq_true rfl⟩ ?_
  refine G_if_eq_b (pc := 11) 34 dX7_message_11 (by decide) (fun c11 => ?_) (fun c11 => ?_)
  · exfalso
    first | exact c11 ⟨ht, hp⟩ | omega
  · refine G_iload_n (pc := 14) 3 3 dX7_message_14 rfl rfl ?_
    refine G_iconst (pc := 15) dX7_message_15 ?_
    refine G_aload_n (pc := 16) 0 0 dX7_message_16 rfl rfl ?_
    refine G_getf (pc := 17) fl_X7_26 dX7_message_17 mg_40 rfl ?_
    refine G_iload_n (pc := 20) 1 1 dX7_message_20 rfl rfl ?_
    refine G_iconst (pc := 21) dX7_message_21 ?_
    refine G_imul (pc := 22) dX7_message_22 ?_
    refine G_iload_n (pc := 23) 2 2 dX7_message_23 rfl rfl ?_
    refine G_iadd (pc := 24) dX7_message_24 ?_
    refine G_iald (pc := 25) dX7_message_25 mg_48 ⟨by omega, by omega, by omega, by omega⟩ ?_
    have hb25 := hVS1_2.b48 ((t * 4) + p)
    refine G_iconst (pc := 26) dX7_message_26 ?_
    refine G_isub (pc := 27) dX7_message_27 ?_
    refine G_callSd (pc := 28) gk_X7_99 dX7_message_28 (c_X7_isWithin (by first | assumption | omega | exact ⟨by omega, by omega⟩ | exact hS _ _ | exact hT _ _) (by first | assumption | omega | exact ⟨by omega, by omega⟩ | exact hS _ _ | exact hT _ _) (by first | assumption | omega | exact ⟨by omega, by omega⟩ | exact hS _ _ | exact hT _ _)) rfl rfl (Nat.le_of_ble_eq_true rfl) ⟨⟨Nat.le_of_ble_eq_true rfl, Nat.le_of_ble_eq_true rfl⟩, Nat.le_of_ble_eq_true rfl, Nat.le_of_ble_eq_true rfl⟩ ?_
    refine G_if_ne_b (pc := 31) 40 dX7_message_31 (by decide) (fun c31 => ?_) (fun c31 => ?_)
    · refine G_iload (pc := 40) 4 dX7_message_40 rfl ?_
      refine G_iconst (pc := 42) dX7_message_42 ?_
      refine G_iconst (pc := 43) dX7_message_43 ?_
      refine G_callSd (pc := 44) gk_X7_99 dX7_message_44 (c_X7_isWithin (by first | assumption | omega | exact ⟨by omega, by omega⟩ | exact hS _ _ | exact hT _ _) (by first | assumption | omega | exact ⟨by omega, by omega⟩ | exact hS _ _ | exact hT _ _) (by first | assumption | omega | exact ⟨by omega, by omega⟩ | exact hS _ _ | exact hT _ _)) rfl rfl (Nat.le_of_ble_eq_true rfl) ⟨⟨Nat.le_of_ble_eq_true rfl, Nat.le_of_ble_eq_true rfl⟩, Nat.le_of_ble_eq_true rfl, Nat.le_of_ble_eq_true rfl⟩ ?_
      refine G_if_eq_b (pc := 47) 69 dX7_message_47 (by decide) (fun c47 => ?_) (fun c47 => ?_)
      · exfalso
        omega
      · refine G_aload_n (pc := 50) 0 0 dX7_message_50 rfl rfl ?_
        refine G_aload_n (pc := 51) 0 0 dX7_message_51 rfl rfl ?_
        refine G_iload_n (pc := 52) 1 1 dX7_message_52 rfl rfl ?_
        refine G_iconst (pc := 53) dX7_message_53 ?_
        refine G_imul (pc := 54) dX7_message_54 ?_
        refine G_iload_n (pc := 55) 2 2 dX7_message_55 rfl rfl ?_
        refine G_iadd (pc := 56) dX7_message_56 ?_
        refine G_iload_n (pc := 57) 3 3 dX7_message_57 rfl rfl ?_
        refine G_callVd (pc := 58) gk_X7_113 dX7_message_58 mg_40 rfl (c_X7_messageAt (Q := Q) (by first | assumption | omega | exact ⟨by omega, by omega⟩ | exact hS _ _ | exact hT _ _) (by first | assumption | omega | exact ⟨by omega, by omega⟩ | exact hS _ _ | exact hT _ _) (by first | assumption | omega | exact ⟨by omega, by omega⟩ | exact hS _ _ | exact hT _ _)) rfl rfl (Nat.le_of_ble_eq_true rfl) ⟨⟨Nat.le_of_ble_eq_true rfl, Nat.le_of_ble_eq_true rfl⟩, Nat.le_of_ble_eq_true rfl, Nat.le_of_ble_eq_true rfl⟩ ?_
        have hb58 := hVS1_2.b59 (((t * 4) + p) * 80 + o)
        refine G_iload (pc := 61) 4 dX7_message_61 rfl ?_
        refine G_callVd (pc := 63) gk_X7_185 dX7_message_63 mg_40 rfl (c_X7_ofMessage (Q := Q) (by first | assumption | omega | exact ⟨by omega, by omega⟩ | exact hS _ _ | exact hT _ _) (by first | assumption | omega | exact ⟨by omega, by omega⟩ | exact hS _ _ | exact hT _ _) (by first | assumption | omega | exact ⟨by omega, by omega⟩ | exact hS _ _ | exact hT _ _) (by first | assumption | omega | exact ⟨by omega, by omega⟩ | exact hS _ _ | exact hT _ _)) rfl rfl (Nat.le_of_ble_eq_true rfl) ⟨⟨Nat.le_of_ble_eq_true rfl, Nat.le_of_ble_eq_true rfl⟩, Nat.le_of_ble_eq_true rfl, Nat.le_of_ble_eq_true rfl⟩ ?_
        refine G_goto (pc := 66) 74 dX7_message_66 (by decide) ?_
        exact G_iret_m (pc := 74) hF dX7_message_74 ⟨Nat.le_of_ble_eq_true rfl, Nat.le_of_ble_eq_true rfl⟩ (by rw [hS1_2]) (by rw [hS1_2])
    · exfalso
      first | exact c11 ⟨ht, hp⟩ | omega
set_option maxHeartbeats 4000000 in
set_option maxRecDepth 100000 in
theorem c_X7_message_x {l : Launch} {Δ : zDl} {ad : zK → Nat} {P : zP} {S : zS} {X : zMem} {Q : zP} {t p o w : Int} (hV : zWM Q S) (h61 : Q 61 0 0 = P 61 0 0) (hrt : zR t) (hrp : zR p) (hro : zR o) (hrw : zR w) (hn : ¬ (((0 ≤ t ∧ t < Q 0 0 0) ∧ (0 ≤ p ∧ p < Q 1 t 0)) ∧ (0 ≤ o ∧ o < Q 2 t p))) : zMn l Δ yX7_message cX7_message 5 (some .int) 9 0 0 [.ref (ad (40, 0, 0, 0)), .int (zI t), .int (zI p), .int (zI o), .int (zI w)] ad (mm Δ ad P S X) (zD (some (.int (zI 0))) ad (mm Δ ad P (zst S (40, 0, 0, 0) 0 1) X)) := by
  refine zMn_of (by decide) (Nat.le_of_ble_eq_true rfl) (fun Γ hl hΔ hF => ?_)
  subst hl hΔ
  show G Γ _ _ _ RX7 _ _ _ _ _ [(0, .ref (ad (40, 0, 0, 0))), (1, .int (zI t)), (2, .int (zI p)), (3, .int (zI o)), (4, .int (zI w))] []
  have hq := hV.q
  refine G_aload_n (pc := 0) 0 0 dX7_message_0 rfl rfl ?_
  refine G_iconst (pc := 1) dX7_message_1 ?_
  refine G_putf (pc := 2) fl_X7_93 fp_X7_0 dX7_message_2 mg_40 (Nat.le_of_ble_eq_true rfl) rfl rfl (mp_40_0 _) ?_
  refine G_name (fun S1_2 hS1_2 => ?_)
  have hVS1_2 : zWM Q S1_2 := by rw [hS1_2]; exact hV.s40_0 (by first | assumption | exact ⟨by omega, by omega⟩)
  refine G_aload_n (pc := 5) 0 0 dX7_message_5 rfl rfl ?_
  refine G_iload_n (pc := 6) 1 1 dX7_message_6 rfl rfl ?_
  refine G_iload_n (pc := 7) 2 2 dX7_message_7 rfl rfl ?_
  refine G_callVd (pc := 8) gk_X7_178 dX7_message_8 mg_40 rfl (c_X7_isPartition (Q := Q) (by first | assumption | omega | exact ⟨by omega, by omega⟩ | exact hS _ _ | exact hT _ _) (by first | assumption | omega | exact ⟨by omega, by omega⟩ | exact hS _ _ | exact hT _ _) (by first | assumption | omega | exact ⟨by omega, by omega⟩ | exact hS _ _ | exact hT _ _)) rfl rfl (Nat.le_of_ble_eq_true rfl) ⟨⟨Nat.le_of_ble_eq_true rfl, Nat.le_of_ble_eq_true rfl⟩, Nat.le_of_ble_eq_true rfl, Nat.le_of_ble_eq_true rfl⟩ ?_
  refine G_if_eq_b (pc := 11) 34 dX7_message_11 (by decide) (fun c11 => ?_) (fun c11 => ?_)
  · refine G_aload_n (pc := 34) 0 0 dX7_message_34 rfl rfl ?_
    refine G_iconst (pc := 35) dX7_message_35 ?_
    refine G_callVd (pc := 36) gk_X7_134 dX7_message_36 mg_40 rfl (c_X7_no (Q := Q) (by first | assumption | omega | exact ⟨by omega, by omega⟩ | exact hS _ _ | exact hT _ _) (by first | assumption | omega | exact ⟨by omega, by omega⟩ | exact hS _ _ | exact hT _ _)) rfl rfl (Nat.le_of_ble_eq_true rfl) ⟨⟨Nat.le_of_ble_eq_true rfl, Nat.le_of_ble_eq_true rfl⟩, Nat.le_of_ble_eq_true rfl, Nat.le_of_ble_eq_true rfl⟩ ?_
    refine G_name (fun S2_36 hS2_36 => ?_)
    have hVS2_36 : zWM Q S2_36 := by rw [hS2_36]; exact hVS1_2.s40_0 (by first | assumption | exact ⟨by omega, by omega⟩)
    exact G_iret_m (pc := 39) hF dX7_message_39 ⟨Nat.le_of_ble_eq_true rfl, Nat.le_of_ble_eq_true rfl⟩ (by first | rfl | omega | simp_all) (by rw [hS2_36, hS1_2, zst_zst])
  · have ht := c11.1
    have hp := c11.2
    have hqt := hV.qt ht
    have hpn := hV.pn ht
    have hqm := hV.qm ht hp
    have hen := hV.en ht hp
    have hen5 := hVS1_2.en ht hp
    refine G_iload_n (pc := 14) 3 3 dX7_message_14 rfl rfl ?_
    refine G_iconst (pc := 15) dX7_message_15 ?_
    refine G_aload_n (pc := 16) 0 0 dX7_message_16 rfl rfl ?_
    refine G_getf (pc := 17) fl_X7_26 dX7_message_17 mg_40 rfl ?_
    refine G_iload_n (pc := 20) 1 1 dX7_message_20 rfl rfl ?_
    refine G_iconst (pc := 21) dX7_message_21 ?_
    refine G_imul (pc := 22) dX7_message_22 ?_
    refine G_iload_n (pc := 23) 2 2 dX7_message_23 rfl rfl ?_
    refine G_iadd (pc := 24) dX7_message_24 ?_
    refine G_iald (pc := 25) dX7_message_25 mg_48 ⟨by omega, by omega, by omega, by omega⟩ ?_
    have hb25 := hVS1_2.b48 ((t * 4) + p)
    refine G_iconst (pc := 26) dX7_message_26 ?_
    refine G_isub (pc := 27) dX7_message_27 ?_
    refine G_callSd (pc := 28) gk_X7_99 dX7_message_28 (c_X7_isWithin (by first | assumption | omega | exact ⟨by omega, by omega⟩ | exact hS _ _ | exact hT _ _) (by first | assumption | omega | exact ⟨by omega, by omega⟩ | exact hS _ _ | exact hT _ _) (by first | assumption | omega | exact ⟨by omega, by omega⟩ | exact hS _ _ | exact hT _ _)) rfl rfl (Nat.le_of_ble_eq_true rfl) ⟨⟨Nat.le_of_ble_eq_true rfl, Nat.le_of_ble_eq_true rfl⟩, Nat.le_of_ble_eq_true rfl, Nat.le_of_ble_eq_true rfl⟩ ?_
    refine G_if_ne_b (pc := 31) 40 dX7_message_31 (by decide) (fun c31 => ?_) (fun c31 => ?_)
    · exfalso
      exact hn ⟨c11, by omega⟩
    · refine G_aload_n (pc := 34) 0 0 dX7_message_34 rfl rfl ?_
      refine G_iconst (pc := 35) dX7_message_35 ?_
      refine G_callVd (pc := 36) gk_X7_134 dX7_message_36 mg_40 rfl (c_X7_no (Q := Q) (by first | assumption | omega | exact ⟨by omega, by omega⟩ | exact hS _ _ | exact hT _ _) (by first | assumption | omega | exact ⟨by omega, by omega⟩ | exact hS _ _ | exact hT _ _)) rfl rfl (Nat.le_of_ble_eq_true rfl) ⟨⟨Nat.le_of_ble_eq_true rfl, Nat.le_of_ble_eq_true rfl⟩, Nat.le_of_ble_eq_true rfl, Nat.le_of_ble_eq_true rfl⟩ ?_
      refine G_name (fun S3_36 hS3_36 => ?_)
      have hVS3_36 : zWM Q S3_36 := by rw [hS3_36]; exact hVS1_2.s40_0 (by first | assumption | exact ⟨by omega, by omega⟩)
      exact G_iret_m (pc := 39) hF dX7_message_39 ⟨Nat.le_of_ble_eq_true rfl, Nat.le_of_ble_eq_true rfl⟩ (by first | rfl | omega | simp_all) (by rw [hS3_36, hS1_2, zst_zst])
set_option maxHeartbeats 4000000 in
set_option maxRecDepth 100000 in
theorem c_X7_message_y {l : Launch} {Δ : zDl} {ad : zK → Nat} {P : zP} {S : zS} {X : zMem} {Q : zP} {t p o w : Int} (hV : zWM Q S) (ht : 0 ≤ t ∧ t < Q 0 0 0) (hp : 0 ≤ p ∧ p < Q 1 t 0) (h61 : Q 61 0 0 = P 61 0 0) (hrw : zR w) (ho : 0 ≤ o ∧ o < Q 2 t p) (hn : ¬ (0 ≤ w ∧ w ≤ 4)) : zMn l Δ yX7_message cX7_message 5 (some .int) 9 0 0 [.ref (ad (40, 0, 0, 0)), .int (zI t), .int (zI p), .int (zI o), .int (zI w)] ad (mm Δ ad P S X) (zD (some (.int (zI 0))) ad (mm Δ ad P (zst S (40, 0, 0, 0) 0 2) X)) := by
  refine zMn_of (by decide) (Nat.le_of_ble_eq_true rfl) (fun Γ hl hΔ hF => ?_)
  subst hl hΔ
  show G Γ _ _ _ RX7 _ _ _ _ _ [(0, .ref (ad (40, 0, 0, 0))), (1, .int (zI t)), (2, .int (zI p)), (3, .int (zI o)), (4, .int (zI w))] []
  have hq := hV.q
  have hqt := hV.qt ht
  have hpn := hV.pn ht
  have hqm := hV.qm ht hp
  have hen := hV.en ht hp
  refine G_aload_n (pc := 0) 0 0 dX7_message_0 rfl rfl ?_
  refine G_iconst (pc := 1) dX7_message_1 ?_
  refine G_putf (pc := 2) fl_X7_93 fp_X7_0 dX7_message_2 mg_40 (Nat.le_of_ble_eq_true rfl) rfl rfl (mp_40_0 _) ?_
  refine G_name (fun S1_2 hS1_2 => ?_)
  have hVS1_2 : zWM Q S1_2 := by rw [hS1_2]; exact hV.s40_0 (by first | assumption | exact ⟨by omega, by omega⟩)
  have hen5 := hVS1_2.en ht hp
  refine G_aload_n (pc := 5) 0 0 dX7_message_5 rfl rfl ?_
  refine G_iload_n (pc := 6) 1 1 dX7_message_6 rfl rfl ?_
  refine G_iload_n (pc := 7) 2 2 dX7_message_7 rfl rfl ?_
  refine G_callVd (pc := 8) gk_X7_178 dX7_message_8 mg_40 rfl (c_X7_isPartition (Q := Q) (by first | assumption | omega | exact ⟨by omega, by omega⟩ | exact hS _ _ | exact hT _ _) (by first | assumption | omega | exact ⟨by omega, by omega⟩ | exact hS _ _ | exact hT _ _) (by first | assumption | omega | exact ⟨by omega, by omega⟩ | exact hS _ _ | exact hT _ _)) rfl rfl (Nat.le_of_ble_eq_true rfl) ⟨⟨Nat.le_of_ble_eq_true rfl, Nat.le_of_ble_eq_true rfl⟩, Nat.le_of_ble_eq_true rfl, Nat.le_of_ble_eq_true rfl⟩ ?_
  refine G_if_eq_b (pc := 11) 34 dX7_message_11 (by decide) (fun c11 => ?_) (fun c11 => ?_)
  · exfalso
    first | exact c11 ⟨ht, hp⟩ | omega
  · refine G_iload_n (pc := 14) 3 3 dX7_message_14 rfl rfl ?_
    refine G_iconst (pc := 15) dX7_message_15 ?_
    refine G_aload_n (pc := 16) 0 0 dX7_message_16 rfl rfl ?_
    refine G_getf (pc := 17) fl_X7_26 dX7_message_17 mg_40 rfl ?_
    refine G_iload_n (pc := 20) 1 1 dX7_message_20 rfl rfl ?_
    refine G_iconst (pc := 21) dX7_message_21 ?_
    refine G_imul (pc := 22) dX7_message_22 ?_
    refine G_iload_n (pc := 23) 2 2 dX7_message_23 rfl rfl ?_
    refine G_iadd (pc := 24) dX7_message_24 ?_
    refine G_iald (pc := 25) dX7_message_25 mg_48 ⟨by omega, by omega, by omega, by omega⟩ ?_
    have hb25 := hVS1_2.b48 ((t * 4) + p)
    refine G_iconst (pc := 26) dX7_message_26 ?_
    refine G_isub (pc := 27) dX7_message_27 ?_
    refine G_callSd (pc := 28) gk_X7_99 dX7_message_28 (c_X7_isWithin (by first | assumption | omega | exact ⟨by omega, by omega⟩ | exact hS _ _ | exact hT _ _) (by first | assumption | omega | exact ⟨by omega, by omega⟩ | exact hS _ _ | exact hT _ _) (by first | assumption | omega | exact ⟨by omega, by omega⟩ | exact hS _ _ | exact hT _ _)) rfl rfl (Nat.le_of_ble_eq_true rfl) ⟨⟨Nat.le_of_ble_eq_true rfl, Nat.le_of_ble_eq_true rfl⟩, Nat.le_of_ble_eq_true rfl, Nat.le_of_ble_eq_true rfl⟩ ?_
    refine G_if_ne_b (pc := 31) 40 dX7_message_31 (by decide) (fun c31 => ?_) (fun c31 => ?_)
    · refine G_iload (pc := 40) 4 dX7_message_40 rfl ?_
      refine G_iconst (pc := 42) dX7_message_42 ?_
      refine G_iconst (pc := 43) dX7_message_43 ?_
      refine G_callSd (pc := 44) gk_X7_99 dX7_message_44 (c_X7_isWithin (by first | assumption | omega | exact ⟨by omega, by omega⟩ | exact hS _ _ | exact hT _ _) (by first | assumption | omega | exact ⟨by omega, by omega⟩ | exact hS _ _ | exact hT _ _) (by first | assumption | omega | exact ⟨by omega, by omega⟩ | exact hS _ _ | exact hT _ _)) rfl rfl (Nat.le_of_ble_eq_true rfl) ⟨⟨Nat.le_of_ble_eq_true rfl, Nat.le_of_ble_eq_true rfl⟩, Nat.le_of_ble_eq_true rfl, Nat.le_of_ble_eq_true rfl⟩ ?_
      refine G_if_eq_b (pc := 47) 69 dX7_message_47 (by decide) (fun c47 => ?_) (fun c47 => ?_)
      · refine G_aload_n (pc := 69) 0 0 dX7_message_69 rfl rfl ?_
        refine G_iconst (pc := 70) dX7_message_70 ?_
        refine G_callVd (pc := 71) gk_X7_134 dX7_message_71 mg_40 rfl (c_X7_no (Q := Q) (by first | assumption | omega | exact ⟨by omega, by omega⟩ | exact hS _ _ | exact hT _ _) (by first | assumption | omega | exact ⟨by omega, by omega⟩ | exact hS _ _ | exact hT _ _)) rfl rfl (Nat.le_of_ble_eq_true rfl) ⟨⟨Nat.le_of_ble_eq_true rfl, Nat.le_of_ble_eq_true rfl⟩, Nat.le_of_ble_eq_true rfl, Nat.le_of_ble_eq_true rfl⟩ ?_
        refine G_name (fun S2_71 hS2_71 => ?_)
        have hVS2_71 : zWM Q S2_71 := by rw [hS2_71]; exact hVS1_2.s40_0 (by first | assumption | exact ⟨by omega, by omega⟩)
        exact G_iret_m (pc := 74) hF dX7_message_74 ⟨Nat.le_of_ble_eq_true rfl, Nat.le_of_ble_eq_true rfl⟩ (by first | rfl | omega | simp_all) (by rw [hS2_71, hS1_2, zst_zst])
      · exfalso
        omega
    · exfalso
      first | exact c11 ⟨ht, hp⟩ | omega
set_option maxHeartbeats 4000000 in
set_option maxRecDepth 100000 in
theorem c_X7_kept {l : Launch} {Δ : zDl} {ad : zK → Nat} {P : zP} {S : zS} {X : zMem} {Q : zP} {t : Int} (hV : zWM Q S) (ht : 0 ≤ t ∧ t < Q 0 0 0) (h61 : Q 61 0 0 = P 61 0 0) : zMn l Δ yX7_kept cX7_kept 2 (some .int) 9 0 0 [.ref (ad (40, 0, 0, 0)), .int (zI t)] ad (mm Δ ad P S X) (zD (some (.int (zI (mkn (zst S (40, 0, 0, 0) 0 0) t)))) ad (mm Δ ad P (zst S (40, 0, 0, 0) 0 0) X)) := by
  refine zMn_of (by decide) (Nat.le_of_ble_eq_true rfl) (fun Γ hl hΔ hF => ?_)
  subst hl hΔ
  show G Γ _ _ _ RX7 _ _ _ _ _ [(0, .ref (ad (40, 0, 0, 0))), (1, .int (zI t))] []
  have hq := hV.q
  have h4 := hV.t4
  have hqt := hV.qt ht
  refine G_aload_n (pc := 0) 0 0 dX7_kept_0 rfl rfl ?_
  refine G_iconst (pc := 1) dX7_kept_1 ?_
  refine G_putf (pc := 2) fl_X7_93 fp_X7_0 dX7_kept_2 mg_40 (Nat.le_of_ble_eq_true rfl) rfl rfl (mp_40_0 _) ?_
  refine G_name (fun S1_2 hS1_2 => ?_)
  have hVS1_2 : zWM Q S1_2 := by rw [hS1_2]; exact hV.s40_0 (by first | assumption | exact ⟨by omega, by omega⟩)
  have h45 := hVS1_2.t4
  refine G_aload_n (pc := 5) 0 0 dX7_kept_5 rfl rfl ?_
  refine G_iload_n (pc := 6) 1 1 dX7_kept_6 rfl rfl ?_
  refine G_callVd (pc := 7) gk_X7_103 dX7_kept_7 mg_40 rfl (c_X7_isTopic (Q := Q) (by first | assumption | omega | exact ⟨by omega, by omega⟩ | exact hS _ _ | exact hT _ _) (by first | assumption | omega | exact ⟨by omega, by omega⟩ | exact hS _ _ | exact hT _ _)) rfl rfl (Nat.le_of_ble_eq_true rfl) ⟨⟨Nat.le_of_ble_eq_true rfl, Nat.le_of_ble_eq_true rfl⟩, Nat.le_of_ble_eq_true rfl, Nat.le_of_ble_eq_true rfl⟩ ?_
  refine G_if_eq_b (pc := 10) 21 dX7_kept_10 (by decide) (fun c10 => ?_) (fun c10 => ?_)
  · exfalso
    omega
  · refine G_aload_n (pc := 13) 0 0 dX7_kept_13 rfl rfl ?_
    refine G_iload_n (pc := 14) 1 1 dX7_kept_14 rfl rfl ?_
    refine G_callVd (pc := 15) gk_X7_188 dX7_kept_15 mg_40 rfl (c_X7_keptNow (Q := Q) (by first | assumption | omega | exact ⟨by omega, by omega⟩ | exact hS _ _ | exact hT _ _) (by first | assumption | omega | exact ⟨by omega, by omega⟩ | exact hS _ _ | exact hT _ _) (by first | assumption | omega | exact ⟨by omega, by omega⟩ | exact hS _ _ | exact hT _ _)) rfl rfl (Nat.le_of_ble_eq_true rfl) ⟨⟨Nat.le_of_ble_eq_true rfl, Nat.le_of_ble_eq_true rfl⟩, Nat.le_of_ble_eq_true rfl, Nat.le_of_ble_eq_true rfl⟩ ?_
    refine G_goto (pc := 18) 26 dX7_kept_18 (by decide) ?_
    exact G_iret_m (pc := 26) hF dX7_kept_26 ⟨Nat.le_of_ble_eq_true rfl, Nat.le_of_ble_eq_true rfl⟩ (by rw [hS1_2]) (by rw [hS1_2])
set_option maxHeartbeats 4000000 in
set_option maxRecDepth 100000 in
theorem c_X7_kept_x {l : Launch} {Δ : zDl} {ad : zK → Nat} {P : zP} {S : zS} {X : zMem} {Q : zP} {t : Int} (hV : zWM Q S) (h61 : Q 61 0 0 = P 61 0 0) (hrt : zR t) (hn : ¬ (0 ≤ t ∧ t < Q 0 0 0)) : zMn l Δ yX7_kept cX7_kept 2 (some .int) 9 0 0 [.ref (ad (40, 0, 0, 0)), .int (zI t)] ad (mm Δ ad P S X) (zD (some (.int (zI 0))) ad (mm Δ ad P (zst S (40, 0, 0, 0) 0 1) X)) := by
  refine zMn_of (by decide) (Nat.le_of_ble_eq_true rfl) (fun Γ hl hΔ hF => ?_)
  subst hl hΔ
  show G Γ _ _ _ RX7 _ _ _ _ _ [(0, .ref (ad (40, 0, 0, 0))), (1, .int (zI t))] []
  have hq := hV.q
  have h4 := hV.t4
  refine G_aload_n (pc := 0) 0 0 dX7_kept_0 rfl rfl ?_
  refine G_iconst (pc := 1) dX7_kept_1 ?_
  refine G_putf (pc := 2) fl_X7_93 fp_X7_0 dX7_kept_2 mg_40 (Nat.le_of_ble_eq_true rfl) rfl rfl (mp_40_0 _) ?_
  refine G_name (fun S1_2 hS1_2 => ?_)
  have hVS1_2 : zWM Q S1_2 := by rw [hS1_2]; exact hV.s40_0 (by first | assumption | exact ⟨by omega, by omega⟩)
  have h45 := hVS1_2.t4
  refine G_aload_n (pc := 5) 0 0 dX7_kept_5 rfl rfl ?_
  refine G_iload_n (pc := 6) 1 1 dX7_kept_6 rfl rfl ?_
  refine G_callVd (pc := 7) gk_X7_103 dX7_kept_7 mg_40 rfl (c_X7_isTopic (Q := Q) (by first | assumption | omega | exact ⟨by omega, by omega⟩ | exact hS _ _ | exact hT _ _) (by first | assumption | omega | exact ⟨by omega, by omega⟩ | exact hS _ _ | exact hT _ _)) rfl rfl (Nat.le_of_ble_eq_true rfl) ⟨⟨Nat.le_of_ble_eq_true rfl, Nat.le_of_ble_eq_true rfl⟩, Nat.le_of_ble_eq_true rfl, Nat.le_of_ble_eq_true rfl⟩ ?_
  refine G_if_eq_b (pc := 10) 21 dX7_kept_10 (by decide) (fun c10 => ?_) (fun c10 => ?_)
  · refine G_aload_n (pc := 21) 0 0 dX7_kept_21 rfl rfl ?_
    refine G_iconst (pc := 22) dX7_kept_22 ?_
    refine G_callVd (pc := 23) gk_X7_134 dX7_kept_23 mg_40 rfl (c_X7_no (Q := Q) (by first | assumption | omega | exact ⟨by omega, by omega⟩ | exact hS _ _ | exact hT _ _) (by first | assumption | omega | exact ⟨by omega, by omega⟩ | exact hS _ _ | exact hT _ _)) rfl rfl (Nat.le_of_ble_eq_true rfl) ⟨⟨Nat.le_of_ble_eq_true rfl, Nat.le_of_ble_eq_true rfl⟩, Nat.le_of_ble_eq_true rfl, Nat.le_of_ble_eq_true rfl⟩ ?_
    refine G_name (fun S2_23 hS2_23 => ?_)
    have hVS2_23 : zWM Q S2_23 := by rw [hS2_23]; exact hVS1_2.s40_0 (by first | assumption | exact ⟨by omega, by omega⟩)
    exact G_iret_m (pc := 26) hF dX7_kept_26 ⟨Nat.le_of_ble_eq_true rfl, Nat.le_of_ble_eq_true rfl⟩ (by first | rfl | omega | simp_all) (by rw [hS2_23, hS1_2, zst_zst])
  · exfalso
    omega
set_option maxHeartbeats 4000000 in
set_option maxRecDepth 100000 in
theorem c_X7_wouldDrop {l : Launch} {Δ : zDl} {ad : zK → Nat} {P : zP} {S : zS} {X : zMem} {Q : zP} {t : Int} (hV : zWM Q S) (hX0 : X (90, 0, 0, 0) = none) (ht : 0 ≤ t ∧ t < Q 0 0 0) (h61 : Q 61 0 0 = P 61 0 0) : zMn l Δ yX7_wouldDrop cX7_wouldDrop 2 (some .int) 9 4 40 [.ref (ad (40, 0, 0, 0)), .int (zI t)] ad (mm Δ ad P S X) (zD (some (.int (zI ((mcl Q 0 t ((zst S (40, 0, 0, 0) 0 0), 0)).2)))) ad (mm Δ ad P ((mcl Q 0 t ((zst S (40, 0, 0, 0) 0 0), 0)).1) X)) := by
  refine zMn_of (by decide) (Nat.le_of_ble_eq_true rfl) (fun Γ hl hΔ hF => ?_)
  subst hl hΔ
  show G Γ _ _ _ RX7 _ _ _ _ _ [(0, .ref (ad (40, 0, 0, 0))), (1, .int (zI t))] []
  have hq := hV.q
  have h4 := hV.t4
  have hqt := hV.qt ht
  refine G_aload_n (pc := 0) 0 0 dX7_wouldDrop_0 rfl rfl ?_
  refine G_iconst (pc := 1) dX7_wouldDrop_1 ?_
  refine G_putf (pc := 2) fl_X7_93 fp_X7_0 dX7_wouldDrop_2 mg_40 (Nat.le_of_ble_eq_true rfl) rfl rfl (mp_40_0 _) ?_
  refine G_name (fun S1_2 hS1_2 => ?_)
  have hVS1_2 : zWM Q S1_2 := by rw [hS1_2]; exact hV.s40_0 (by first | assumption | exact ⟨by omega, by omega⟩)
  have h45 := hVS1_2.t4
  refine G_aload_n (pc := 5) 0 0 dX7_wouldDrop_5 rfl rfl ?_
  refine G_iload_n (pc := 6) 1 1 dX7_wouldDrop_6 rfl rfl ?_
  refine G_callVd (pc := 7) gk_X7_103 dX7_wouldDrop_7 mg_40 rfl (c_X7_isTopic (Q := Q) (by first | assumption | omega | exact ⟨by omega, by omega⟩ | exact hS _ _ | exact hT _ _) (by first | assumption | omega | exact ⟨by omega, by omega⟩ | exact hS _ _ | exact hT _ _)) rfl rfl (Nat.le_of_ble_eq_true rfl) ⟨⟨Nat.le_of_ble_eq_true rfl, Nat.le_of_ble_eq_true rfl⟩, Nat.le_of_ble_eq_true rfl, Nat.le_of_ble_eq_true rfl⟩ ?_
  refine G_if_eq_b (pc := 10) 22 dX7_wouldDrop_10 (by decide) (fun c10 => ?_) (fun c10 => ?_)
  · exfalso
    omega
  · refine G_aload_n (pc := 13) 0 0 dX7_wouldDrop_13 rfl rfl ?_
    refine G_iload_n (pc := 14) 1 1 dX7_wouldDrop_14 rfl rfl ?_
    refine G_iconst (pc := 15) dX7_wouldDrop_15 ?_
    refine G_callVdA (pc := 16) gk_X7_165 dX7_wouldDrop_16 mg_40 rfl (c_X7_cleaned (Q := Q) (by first | assumption | omega | exact ⟨by omega, by omega⟩ | exact hS _ _ | exact hT _ _) (by first | assumption | omega | exact ⟨by omega, by omega⟩ | exact hS _ _ | exact hT _ _) (by first | assumption | omega | exact ⟨by omega, by omega⟩ | exact hS _ _ | exact hT _ _) (by first | assumption | omega | exact ⟨by omega, by omega⟩ | exact hS _ _ | exact hT _ _) (by first | assumption | omega | exact ⟨by omega, by omega⟩ | exact hS _ _ | exact hT _ _)) rfl rfl (Nat.le_of_ble_eq_true rfl) ⟨⟨Nat.le_of_ble_eq_true rfl, Nat.le_of_ble_eq_true rfl⟩, (by show 0 + 4 ≤ 4; omega), (by show 0 + 40 ≤ 40; omega)⟩ ?_
    show G Γ _ _ _ _ _ _ (4) (40) _ _ _
    refine G_name (fun S2_16 hS2_16 => ?_)
    have hVS2_16 : zWM Q S2_16 := by rw [hS2_16]; exact mcl_W hVS1_2 (by first | assumption | exact ⟨by omega, by omega⟩)
    refine G_goto (pc := 19) 27 dX7_wouldDrop_19 (by decide) ?_
    exact G_iret_m (pc := 27) hF dX7_wouldDrop_27 ⟨Nat.le_of_ble_eq_true rfl, Nat.le_of_ble_eq_true rfl⟩ (by rw [hS1_2]) (by rw [hS2_16, hS1_2])
set_option maxHeartbeats 4000000 in
set_option maxRecDepth 100000 in
theorem c_X7_wouldDrop_x {l : Launch} {Δ : zDl} {ad : zK → Nat} {P : zP} {S : zS} {X : zMem} {Q : zP} {t : Int} (hV : zWM Q S) (hX0 : X (90, 0, 0, 0) = none) (h61 : Q 61 0 0 = P 61 0 0) (hrt : zR t) (hn : ¬ (0 ≤ t ∧ t < Q 0 0 0)) : zMn l Δ yX7_wouldDrop cX7_wouldDrop 2 (some .int) 9 0 0 [.ref (ad (40, 0, 0, 0)), .int (zI t)] ad (mm Δ ad P S X) (zD (some (.int (zI 0))) ad (mm Δ ad P (zst S (40, 0, 0, 0) 0 1) X)) := by
  refine zMn_of (by decide) (Nat.le_of_ble_eq_true rfl) (fun Γ hl hΔ hF => ?_)
  subst hl hΔ
  show G Γ _ _ _ RX7 _ _ _ _ _ [(0, .ref (ad (40, 0, 0, 0))), (1, .int (zI t))] []
  have hq := hV.q
  have h4 := hV.t4
  refine G_aload_n (pc := 0) 0 0 dX7_wouldDrop_0 rfl rfl ?_
  refine G_iconst (pc := 1) dX7_wouldDrop_1 ?_
  refine G_putf (pc := 2) fl_X7_93 fp_X7_0 dX7_wouldDrop_2 mg_40 (Nat.le_of_ble_eq_true rfl) rfl rfl (mp_40_0 _) ?_
  refine G_name (fun S1_2 hS1_2 => ?_)
  have hVS1_2 : zWM Q S1_2 := by rw [hS1_2]; exact hV.s40_0 (by first | assumption | exact ⟨by omega, by omega⟩)
  have h45 := hVS1_2.t4
  refine G_aload_n (pc := 5) 0 0 dX7_wouldDrop_5 rfl rfl ?_
  refine G_iload_n (pc := 6) 1 1 dX7_wouldDrop_6 rfl rfl ?_
  refine G_callVd (pc := 7) gk_X7_103 dX7_wouldDrop_7 mg_40 rfl (c_X7_isTopic (Q := Q) (by first | assumption | omega | exact ⟨by omega, by omega⟩ | exact hS _ _ | exact hT _ _) (by first | assumption | omega | exact ⟨by omega, by omega⟩ | exact hS _ _ | exact hT _ _)) rfl rfl (Nat.le_of_ble_eq_true rfl) ⟨⟨Nat.le_of_ble_eq_true rfl, Nat.le_of_ble_eq_true rfl⟩, Nat.le_of_ble_eq_true rfl, Nat.le_of_ble_eq_true rfl⟩ ?_
  refine G_if_eq_b (pc := 10) 22 dX7_wouldDrop_10 (by decide) (fun c10 => ?_) (fun c10 => ?_)
  · refine G_aload_n (pc := 22) 0 0 dX7_wouldDrop_22 rfl rfl ?_
    refine G_iconst (pc := 23) dX7_wouldDrop_23 ?_
    refine G_callVd (pc := 24) gk_X7_134 dX7_wouldDrop_24 mg_40 rfl (c_X7_no (Q := Q) (by first | assumption | omega | exact ⟨by omega, by omega⟩ | exact hS _ _ | exact hT _ _) (by first | assumption | omega | exact ⟨by omega, by omega⟩ | exact hS _ _ | exact hT _ _)) rfl rfl (Nat.le_of_ble_eq_true rfl) ⟨⟨Nat.le_of_ble_eq_true rfl, Nat.le_of_ble_eq_true rfl⟩, Nat.le_of_ble_eq_true rfl, Nat.le_of_ble_eq_true rfl⟩ ?_
    refine G_name (fun S2_24 hS2_24 => ?_)
    have hVS2_24 : zWM Q S2_24 := by rw [hS2_24]; exact hVS1_2.s40_0 (by first | assumption | exact ⟨by omega, by omega⟩)
    exact G_iret_m (pc := 27) hF dX7_wouldDrop_27 ⟨Nat.le_of_ble_eq_true rfl, Nat.le_of_ble_eq_true rfl⟩ (by first | rfl | omega | simp_all) (by rw [hS2_24, hS1_2, zst_zst])
  · exfalso
    omega
set_option maxHeartbeats 4000000 in
set_option maxRecDepth 100000 in
theorem c_X7_setKeep {l : Launch} {Δ : zDl} {ad : zK → Nat} {P : zP} {S : zS} {X : zMem} {Q : zP} {t k : Int} (hV : zWM Q S) (ht : 0 ≤ t ∧ t < Q 0 0 0) (hk : 0 ≤ k ∧ k ≤ 200) : zMn l Δ yX7_setKeep cX7_setKeep 4 (some .int) 9 0 0 [.ref (ad (40, 0, 0, 0)), .int (zI t), .int (zI k)] ad (mm Δ ad P S X) (zD (some (.int (zI (S (46, 0, 0, 0) t)))) ad (mm Δ ad P (zst (zst S (40, 0, 0, 0) 0 0) (46, 0, 0, 0) t k) X)) := by
  refine zMn_of (by decide) (Nat.le_of_ble_eq_true rfl) (fun Γ hl hΔ hF => ?_)
  subst hl hΔ
  show G Γ _ _ _ RX7 _ _ _ _ _ [(0, .ref (ad (40, 0, 0, 0))), (1, .int (zI t)), (2, .int (zI k))] []
  have hq := hV.q
  have h4 := hV.t4
  have hqt := hV.qt ht
  refine G_aload_n (pc := 0) 0 0 dX7_setKeep_0 rfl rfl ?_
  refine G_iconst (pc := 1) dX7_setKeep_1 ?_
  refine G_putf (pc := 2) fl_X7_93 fp_X7_0 dX7_setKeep_2 mg_40 (Nat.le_of_ble_eq_true rfl) rfl rfl (mp_40_0 _) ?_
  refine G_name (fun S1_2 hS1_2 => ?_)
  have hVS1_2 : zWM Q S1_2 := by rw [hS1_2]; exact hV.s40_0 (by first | assumption | exact ⟨by omega, by omega⟩)
  have h45 := hVS1_2.t4
  refine G_aload_n (pc := 5) 0 0 dX7_setKeep_5 rfl rfl ?_
  refine G_iload_n (pc := 6) 1 1 dX7_setKeep_6 rfl rfl ?_
  refine G_callVd (pc := 7) gk_X7_103 dX7_setKeep_7 mg_40 rfl (c_X7_isTopic (Q := Q) (by first | assumption | omega | exact ⟨by omega, by omega⟩ | exact hS _ _ | exact hT _ _) (by first | assumption | omega | exact ⟨by omega, by omega⟩ | exact hS _ _ | exact hT _ _)) rfl rfl (Nat.le_of_ble_eq_true rfl) ⟨⟨Nat.le_of_ble_eq_true rfl, Nat.le_of_ble_eq_true rfl⟩, Nat.le_of_ble_eq_true rfl, Nat.le_of_ble_eq_true rfl⟩ ?_
  refine G_if_ne_b (pc := 10) 19 dX7_setKeep_10 (by decide) (fun c10 => ?_) (fun c10 => ?_)
  · refine G_iload_n (pc := 19) 2 2 dX7_setKeep_19 rfl rfl ?_
    refine G_iconst (pc := 20) dX7_setKeep_20 ?_
    refine G_sipush (pc := 21) dX7_setKeep_21 (by decide) ?_
    refine G_callSd (pc := 24) gk_X7_99 dX7_setKeep_24 (c_X7_isWithin (by first | assumption | omega | exact ⟨by omega, by omega⟩ | exact hS _ _ | exact hT _ _) (by first | assumption | omega | exact ⟨by omega, by omega⟩ | exact hS _ _ | exact hT _ _) (by first | assumption | omega | exact ⟨by omega, by omega⟩ | exact hS _ _ | exact hT _ _)) rfl rfl (Nat.le_of_ble_eq_true rfl) ⟨⟨Nat.le_of_ble_eq_true rfl, Nat.le_of_ble_eq_true rfl⟩, Nat.le_of_ble_eq_true rfl, Nat.le_of_ble_eq_true rfl⟩ ?_
    refine G_if_ne_b (pc := 27) 36 dX7_setKeep_27 (by decide) (fun c27 => ?_) (fun c27 => ?_)
    · refine G_aload_n (pc := 36) 0 0 dX7_setKeep_36 rfl rfl ?_
      refine G_getf (pc := 37) fl_X7_20 dX7_setKeep_37 mg_40 rfl ?_
      refine G_iload_n (pc := 40) 1 1 dX7_setKeep_40 rfl rfl ?_
      refine G_iald (pc := 41) dX7_setKeep_41 mg_46 ⟨by omega, by omega, by omega, by omega⟩ ?_
      have hb41 := hVS1_2.b46 (t)
      refine G_istore_ne (pc := 42) 3 (fun zw => [(3, .int (zI zw)), (0, .ref (ad (40, 0, 0, 0))), (1, .int (zI t)), (2, .int (zI k))]) dX7_setKeep_42 rfl (by decide) (fun _ => rfl) (fun v42 e42 => ?_)
      refine G_aload_n (pc := 43) 0 1 dX7_setKeep_43 rfl rfl ?_
      refine G_getf (pc := 44) fl_X7_20 dX7_setKeep_44 mg_40 rfl ?_
      refine G_iload_n (pc := 47) 1 2 dX7_setKeep_47 rfl rfl ?_
      refine G_iload_n (pc := 48) 2 3 dX7_setKeep_48 rfl rfl ?_
      refine G_iast (pc := 49) dX7_setKeep_49 mg_46 ⟨by omega, by omega, by omega, by omega⟩ (mp_46 _ _) ?_
      refine G_name (fun S2_49 hS2_49 => ?_)
      have hVS2_49 : zWM Q S2_49 := by rw [hS2_49]; exact hVS1_2.s46 ⟨by omega, by omega⟩
      refine G_iload_n (pc := 50) 3 0 dX7_setKeep_50 rfl rfl ?_
      exact G_iret_m (pc := 51) hF dX7_setKeep_51 ⟨Nat.le_of_ble_eq_true rfl, Nat.le_of_ble_eq_true rfl⟩ (by rw [e42, hS1_2, zst_k _ _ _ _ (by simp)]) (by rw [hS2_49, hS1_2])
    · exfalso
      omega
  · exfalso
    omega
set_option maxHeartbeats 4000000 in
set_option maxRecDepth 100000 in
theorem c_X7_setKeep_x {l : Launch} {Δ : zDl} {ad : zK → Nat} {P : zP} {S : zS} {X : zMem} {Q : zP} {t k : Int} (hV : zWM Q S) (hrt : zR t) (hrk : zR k) (hn : ¬ (0 ≤ t ∧ t < Q 0 0 0)) : zMn l Δ yX7_setKeep cX7_setKeep 4 (some .int) 9 0 0 [.ref (ad (40, 0, 0, 0)), .int (zI t), .int (zI k)] ad (mm Δ ad P S X) (zD (some (.int (zI 0))) ad (mm Δ ad P (zst S (40, 0, 0, 0) 0 1) X)) := by
  refine zMn_of (by decide) (Nat.le_of_ble_eq_true rfl) (fun Γ hl hΔ hF => ?_)
  subst hl hΔ
  show G Γ _ _ _ RX7 _ _ _ _ _ [(0, .ref (ad (40, 0, 0, 0))), (1, .int (zI t)), (2, .int (zI k))] []
  have hq := hV.q
  have h4 := hV.t4
  refine G_aload_n (pc := 0) 0 0 dX7_setKeep_0 rfl rfl ?_
  refine G_iconst (pc := 1) dX7_setKeep_1 ?_
  refine G_putf (pc := 2) fl_X7_93 fp_X7_0 dX7_setKeep_2 mg_40 (Nat.le_of_ble_eq_true rfl) rfl rfl (mp_40_0 _) ?_
  refine G_name (fun S1_2 hS1_2 => ?_)
  have hVS1_2 : zWM Q S1_2 := by rw [hS1_2]; exact hV.s40_0 (by first | assumption | exact ⟨by omega, by omega⟩)
  have h45 := hVS1_2.t4
  refine G_aload_n (pc := 5) 0 0 dX7_setKeep_5 rfl rfl ?_
  refine G_iload_n (pc := 6) 1 1 dX7_setKeep_6 rfl rfl ?_
  refine G_callVd (pc := 7) gk_X7_103 dX7_setKeep_7 mg_40 rfl (c_X7_isTopic (Q := Q) (by first | assumption | omega | exact ⟨by omega, by omega⟩ | exact hS _ _ | exact hT _ _) (by first | assumption | omega | exact ⟨by omega, by omega⟩ | exact hS _ _ | exact hT _ _)) rfl rfl (Nat.le_of_ble_eq_true rfl) ⟨⟨Nat.le_of_ble_eq_true rfl, Nat.le_of_ble_eq_true rfl⟩, Nat.le_of_ble_eq_true rfl, Nat.le_of_ble_eq_true rfl⟩ ?_
  refine G_if_ne_b (pc := 10) 19 dX7_setKeep_10 (by decide) (fun c10 => ?_) (fun c10 => ?_)
  · exfalso
    omega
  · refine G_aload_n (pc := 13) 0 0 dX7_setKeep_13 rfl rfl ?_
    refine G_iconst (pc := 14) dX7_setKeep_14 ?_
    refine G_callVd (pc := 15) gk_X7_134 dX7_setKeep_15 mg_40 rfl (c_X7_no (Q := Q) (by first | assumption | omega | exact ⟨by omega, by omega⟩ | exact hS _ _ | exact hT _ _) (by first | assumption | omega | exact ⟨by omega, by omega⟩ | exact hS _ _ | exact hT _ _)) rfl rfl (Nat.le_of_ble_eq_true rfl) ⟨⟨Nat.le_of_ble_eq_true rfl, Nat.le_of_ble_eq_true rfl⟩, Nat.le_of_ble_eq_true rfl, Nat.le_of_ble_eq_true rfl⟩ ?_
    refine G_name (fun S2_15 hS2_15 => ?_)
    have hVS2_15 : zWM Q S2_15 := by rw [hS2_15]; exact hVS1_2.s40_0 (by first | assumption | exact ⟨by omega, by omega⟩)
    exact G_iret_m (pc := 18) hF dX7_setKeep_18 ⟨Nat.le_of_ble_eq_true rfl, Nat.le_of_ble_eq_true rfl⟩ (by first | rfl | omega | simp_all) (by rw [hS2_15, hS1_2, zst_zst])
set_option maxHeartbeats 4000000 in
set_option maxRecDepth 100000 in
theorem c_X7_setKeep_y {l : Launch} {Δ : zDl} {ad : zK → Nat} {P : zP} {S : zS} {X : zMem} {Q : zP} {t k : Int} (hV : zWM Q S) (ht : 0 ≤ t ∧ t < Q 0 0 0) (hrk : zR k) (hn : ¬ (0 ≤ k ∧ k ≤ 200)) : zMn l Δ yX7_setKeep cX7_setKeep 4 (some .int) 9 0 0 [.ref (ad (40, 0, 0, 0)), .int (zI t), .int (zI k)] ad (mm Δ ad P S X) (zD (some (.int (zI 0))) ad (mm Δ ad P (zst S (40, 0, 0, 0) 0 2) X)) := by
  refine zMn_of (by decide) (Nat.le_of_ble_eq_true rfl) (fun Γ hl hΔ hF => ?_)
  subst hl hΔ
  show G Γ _ _ _ RX7 _ _ _ _ _ [(0, .ref (ad (40, 0, 0, 0))), (1, .int (zI t)), (2, .int (zI k))] []
  have hq := hV.q
  have h4 := hV.t4
  have hqt := hV.qt ht
  refine G_aload_n (pc := 0) 0 0 dX7_setKeep_0 rfl rfl ?_
  refine G_iconst (pc := 1) dX7_setKeep_1 ?_
  refine G_putf (pc := 2) fl_X7_93 fp_X7_0 dX7_setKeep_2 mg_40 (Nat.le_of_ble_eq_true rfl) rfl rfl (mp_40_0 _) ?_
  refine G_name (fun S1_2 hS1_2 => ?_)
  have hVS1_2 : zWM Q S1_2 := by rw [hS1_2]; exact hV.s40_0 (by first | assumption | exact ⟨by omega, by omega⟩)
  have h45 := hVS1_2.t4
  refine G_aload_n (pc := 5) 0 0 dX7_setKeep_5 rfl rfl ?_
  refine G_iload_n (pc := 6) 1 1 dX7_setKeep_6 rfl rfl ?_
  refine G_callVd (pc := 7) gk_X7_103 dX7_setKeep_7 mg_40 rfl (c_X7_isTopic (Q := Q) (by first | assumption | omega | exact ⟨by omega, by omega⟩ | exact hS _ _ | exact hT _ _) (by first | assumption | omega | exact ⟨by omega, by omega⟩ | exact hS _ _ | exact hT _ _)) rfl rfl (Nat.le_of_ble_eq_true rfl) ⟨⟨Nat.le_of_ble_eq_true rfl, Nat.le_of_ble_eq_true rfl⟩, Nat.le_of_ble_eq_true rfl, Nat.le_of_ble_eq_true rfl⟩ ?_
  refine G_if_ne_b (pc := 10) 19 dX7_setKeep_10 (by decide) (fun c10 => ?_) (fun c10 => ?_)
  · refine G_iload_n (pc := 19) 2 2 dX7_setKeep_19 rfl rfl ?_
    refine G_iconst (pc := 20) dX7_setKeep_20 ?_
    refine G_sipush (pc := 21) dX7_setKeep_21 (by decide) ?_
    refine G_callSd (pc := 24) gk_X7_99 dX7_setKeep_24 (c_X7_isWithin (by first | assumption | omega | exact ⟨by omega, by omega⟩ | exact hS _ _ | exact hT _ _) (by first | assumption | omega | exact ⟨by omega, by omega⟩ | exact hS _ _ | exact hT _ _) (by first | assumption | omega | exact ⟨by omega, by omega⟩ | exact hS _ _ | exact hT _ _)) rfl rfl (Nat.le_of_ble_eq_true rfl) ⟨⟨Nat.le_of_ble_eq_true rfl, Nat.le_of_ble_eq_true rfl⟩, Nat.le_of_ble_eq_true rfl, Nat.le_of_ble_eq_true rfl⟩ ?_
    refine G_if_ne_b (pc := 27) 36 dX7_setKeep_27 (by decide) (fun c27 => ?_) (fun c27 => ?_)
    · exfalso
      omega
    · refine G_aload_n (pc := 30) 0 0 dX7_setKeep_30 rfl rfl ?_
      refine G_iconst (pc := 31) dX7_setKeep_31 ?_
      refine G_callVd (pc := 32) gk_X7_134 dX7_setKeep_32 mg_40 rfl (c_X7_no (Q := Q) (by first | assumption | omega | exact ⟨by omega, by omega⟩ | exact hS _ _ | exact hT _ _) (by first | assumption | omega | exact ⟨by omega, by omega⟩ | exact hS _ _ | exact hT _ _)) rfl rfl (Nat.le_of_ble_eq_true rfl) ⟨⟨Nat.le_of_ble_eq_true rfl, Nat.le_of_ble_eq_true rfl⟩, Nat.le_of_ble_eq_true rfl, Nat.le_of_ble_eq_true rfl⟩ ?_
      refine G_name (fun S2_32 hS2_32 => ?_)
      have hVS2_32 : zWM Q S2_32 := by rw [hS2_32]; exact hVS1_2.s40_0 (by first | assumption | exact ⟨by omega, by omega⟩)
      exact G_iret_m (pc := 35) hF dX7_setKeep_35 ⟨Nat.le_of_ble_eq_true rfl, Nat.le_of_ble_eq_true rfl⟩ (by first | rfl | omega | simp_all) (by rw [hS2_32, hS1_2, zst_zst])
  · exfalso
    omega
set_option maxHeartbeats 4000000 in
set_option maxRecDepth 100000 in
theorem c_X7_clean {l : Launch} {Δ : zDl} {ad : zK → Nat} {P : zP} {S : zS} {X : zMem} {Q : zP} {t : Int} (hV : zWM Q S) (hX0 : X (90, 0, 0, 0) = none) (ht : 0 ≤ t ∧ t < Q 0 0 0) (h61 : Q 61 0 0 = P 61 0 0) (h1 : ¬ S (50, 0, 0, 0) t = 0) : zMn l Δ yX7_clean cX7_clean 3 (some .int) 9 4 40 [.ref (ad (40, 0, 0, 0)), .int (zI t)] ad (mm Δ ad P S X) (zD (some (.int (zI ((mcl Q 1 t ((zst S (40, 0, 0, 0) 0 0), 0)).2)))) ad (mm Δ ad P (msa Q (mcl Q 1 t ((zst S (40, 0, 0, 0) 0 0), 0)).1) X)) := by
  refine zMn_of (by decide) (Nat.le_of_ble_eq_true rfl) (fun Γ hl hΔ hF => ?_)
  subst hl hΔ
  show G Γ _ _ _ RX7 _ _ _ _ _ [(0, .ref (ad (40, 0, 0, 0))), (1, .int (zI t))] []
  have hq := hV.q
  have h4 := hV.t4
  have hqt := hV.qt ht
  refine G_aload_n (pc := 0) 0 0 dX7_clean_0 rfl rfl ?_
  refine G_iconst (pc := 1) dX7_clean_1 ?_
  refine G_putf (pc := 2) fl_X7_93 fp_X7_0 dX7_clean_2 mg_40 (Nat.le_of_ble_eq_true rfl) rfl rfl (mp_40_0 _) ?_
  refine G_name (fun S1_2 hS1_2 => ?_)
  have hVS1_2 : zWM Q S1_2 := by rw [hS1_2]; exact hV.s40_0 (by first | assumption | exact ⟨by omega, by omega⟩)
  have h45 := hVS1_2.t4
  have h50 : S1_2 (50, 0, 0, 0) t = S (50, 0, 0, 0) t := by rw [hS1_2, zst_k _ _ _ _ (by simp)]
  refine G_aload_n (pc := 5) 0 0 dX7_clean_5 rfl rfl ?_
  refine G_iload_n (pc := 6) 1 1 dX7_clean_6 rfl rfl ?_
  refine G_callVd (pc := 7) gk_X7_103 dX7_clean_7 mg_40 rfl (c_X7_isTopic (Q := Q) (by first | assumption | omega | exact ⟨by omega, by omega⟩ | exact hS _ _ | exact hT _ _) (by first | assumption | omega | exact ⟨by omega, by omega⟩ | exact hS _ _ | exact hT _ _)) rfl rfl (Nat.le_of_ble_eq_true rfl) ⟨⟨Nat.le_of_ble_eq_true rfl, Nat.le_of_ble_eq_true rfl⟩, Nat.le_of_ble_eq_true rfl, Nat.le_of_ble_eq_true rfl⟩ ?_
  refine G_if_ne_b (pc := 10) 19 dX7_clean_10 (by decide) (fun c10 => ?_) (fun c10 => ?_)
  · refine G_aload_n (pc := 19) 0 0 dX7_clean_19 rfl rfl ?_
    refine G_getf (pc := 20) fl_X7_32 dX7_clean_20 mg_40 rfl ?_
    refine G_iload_n (pc := 23) 1 1 dX7_clean_23 rfl rfl ?_
    refine G_zald (pc := 24) dX7_clean_24 mg_50 ⟨by omega, by omega, by omega, by omega⟩ ?_
    have hb24 := hVS1_2.b50 (t)
    refine G_if_ne (pc := 25) 34 dX7_clean_25 (by decide) (by first | exact hS _ _ | exact hT _ _ | exact ⟨by omega, by omega⟩ | assumption | exact zWM.r (by assumption) _ _ (by decide)) (fun c25 => ?_) (fun c25 => ?_)
    · refine G_aload_n (pc := 34) 0 0 dX7_clean_34 rfl rfl ?_
      refine G_iload_n (pc := 35) 1 1 dX7_clean_35 rfl rfl ?_
      refine G_iconst (pc := 36) dX7_clean_36 ?_
      refine G_callVdA (pc := 37) gk_X7_165 dX7_clean_37 mg_40 rfl (c_X7_cleaned (Q := Q) (by first | assumption | omega | exact ⟨by omega, by omega⟩ | exact hS _ _ | exact hT _ _) (by first | assumption | omega | exact ⟨by omega, by omega⟩ | exact hS _ _ | exact hT _ _) (by first | assumption | omega | exact ⟨by omega, by omega⟩ | exact hS _ _ | exact hT _ _) (by first | assumption | omega | exact ⟨by omega, by omega⟩ | exact hS _ _ | exact hT _ _) (by first | assumption | omega | exact ⟨by omega, by omega⟩ | exact hS _ _ | exact hT _ _)) rfl rfl (Nat.le_of_ble_eq_true rfl) ⟨⟨Nat.le_of_ble_eq_true rfl, Nat.le_of_ble_eq_true rfl⟩, (by show 0 + 4 ≤ 4; omega), (by show 0 + 40 ≤ 40; omega)⟩ ?_
      show G Γ _ _ _ _ _ _ (4) (40) _ _ _
      refine G_name (fun S2_37 hS2_37 => ?_)
      have hVS2_37 : zWM Q S2_37 := by rw [hS2_37]; exact mcl_W hVS1_2 (by first | assumption | exact ⟨by omega, by omega⟩)
      refine G_istore_ne (pc := 40) 2 (fun zw => [(2, .int (zI zw)), (0, .ref (ad (40, 0, 0, 0))), (1, .int (zI t))]) dX7_clean_40 rfl (by decide) (fun _ => rfl) (fun v40 e40 => ?_)
      refine G_aload_n (pc := 41) 0 1 dX7_clean_41 rfl rfl ?_
      refine G_callVv (pc := 42) gk_X7_146 dX7_clean_42 mg_40 rfl (c_X7_settle (Q := Q) (by first | assumption | omega | exact ⟨by omega, by omega⟩ | exact hS _ _ | exact hT _ _) (by first | assumption | omega | exact ⟨by omega, by omega⟩ | exact hS _ _ | exact hT _ _)) rfl rfl (Nat.le_of_ble_eq_true rfl) ⟨⟨Nat.le_of_ble_eq_true rfl, Nat.le_of_ble_eq_true rfl⟩, Nat.le_of_ble_eq_true rfl, Nat.le_of_ble_eq_true rfl⟩ ?_
      refine G_name (fun S3_42 hS3_42 => ?_)
      have hVS3_42 : zWM Q S3_42 := by rw [hS3_42]; exact msa_W hVS2_37
      refine G_iload_n (pc := 45) 2 0 dX7_clean_45 rfl rfl ?_
      exact G_iret_m (pc := 46) hF dX7_clean_46 ⟨Nat.le_of_ble_eq_true rfl, Nat.le_of_ble_eq_true rfl⟩ (by rw [e40, hS1_2]) (by rw [hS3_42, hS2_37, hS1_2])
    · exfalso
      omega
  · exfalso
    omega
set_option maxHeartbeats 4000000 in
set_option maxRecDepth 100000 in
theorem c_X7_clean_x {l : Launch} {Δ : zDl} {ad : zK → Nat} {P : zP} {S : zS} {X : zMem} {Q : zP} {t : Int} (hV : zWM Q S) (hX0 : X (90, 0, 0, 0) = none) (h61 : Q 61 0 0 = P 61 0 0) (hrt : zR t) (hn : ¬ (0 ≤ t ∧ t < Q 0 0 0)) : zMn l Δ yX7_clean cX7_clean 3 (some .int) 9 0 0 [.ref (ad (40, 0, 0, 0)), .int (zI t)] ad (mm Δ ad P S X) (zD (some (.int (zI 0))) ad (mm Δ ad P (zst S (40, 0, 0, 0) 0 1) X)) := by
  refine zMn_of (by decide) (Nat.le_of_ble_eq_true rfl) (fun Γ hl hΔ hF => ?_)
  subst hl hΔ
  show G Γ _ _ _ RX7 _ _ _ _ _ [(0, .ref (ad (40, 0, 0, 0))), (1, .int (zI t))] []
  have hq := hV.q
  have h4 := hV.t4
  refine G_aload_n (pc := 0) 0 0 dX7_clean_0 rfl rfl ?_
  refine G_iconst (pc := 1) dX7_clean_1 ?_
  refine G_putf (pc := 2) fl_X7_93 fp_X7_0 dX7_clean_2 mg_40 (Nat.le_of_ble_eq_true rfl) rfl rfl (mp_40_0 _) ?_
  refine G_name (fun S1_2 hS1_2 => ?_)
  have hVS1_2 : zWM Q S1_2 := by rw [hS1_2]; exact hV.s40_0 (by first | assumption | exact ⟨by omega, by omega⟩)
  have h45 := hVS1_2.t4
  refine G_aload_n (pc := 5) 0 0 dX7_clean_5 rfl rfl ?_
  refine G_iload_n (pc := 6) 1 1 dX7_clean_6 rfl rfl ?_
  refine G_callVd (pc := 7) gk_X7_103 dX7_clean_7 mg_40 rfl (c_X7_isTopic (Q := Q) (by first | assumption | omega | exact ⟨by omega, by omega⟩ | exact hS _ _ | exact hT _ _) (by first | assumption | omega | exact ⟨by omega, by omega⟩ | exact hS _ _ | exact hT _ _)) rfl rfl (Nat.le_of_ble_eq_true rfl) ⟨⟨Nat.le_of_ble_eq_true rfl, Nat.le_of_ble_eq_true rfl⟩, Nat.le_of_ble_eq_true rfl, Nat.le_of_ble_eq_true rfl⟩ ?_
  refine G_if_ne_b (pc := 10) 19 dX7_clean_10 (by decide) (fun c10 => ?_) (fun c10 => ?_)
  · exfalso
    omega
  · refine G_aload_n (pc := 13) 0 0 dX7_clean_13 rfl rfl ?_
    refine G_iconst (pc := 14) dX7_clean_14 ?_
    refine G_callVd (pc := 15) gk_X7_134 dX7_clean_15 mg_40 rfl (c_X7_no (Q := Q) (by first | assumption | omega | exact ⟨by omega, by omega⟩ | exact hS _ _ | exact hT _ _) (by first | assumption | omega | exact ⟨by omega, by omega⟩ | exact hS _ _ | exact hT _ _)) rfl rfl (Nat.le_of_ble_eq_true rfl) ⟨⟨Nat.le_of_ble_eq_true rfl, Nat.le_of_ble_eq_true rfl⟩, Nat.le_of_ble_eq_true rfl, Nat.le_of_ble_eq_true rfl⟩ ?_
    refine G_name (fun S2_15 hS2_15 => ?_)
    have hVS2_15 : zWM Q S2_15 := by rw [hS2_15]; exact hVS1_2.s40_0 (by first | assumption | exact ⟨by omega, by omega⟩)
    exact G_iret_m (pc := 18) hF dX7_clean_18 ⟨Nat.le_of_ble_eq_true rfl, Nat.le_of_ble_eq_true rfl⟩ (by first | rfl | omega | simp_all) (by rw [hS2_15, hS1_2, zst_zst])
set_option maxHeartbeats 4000000 in
set_option maxRecDepth 100000 in
theorem c_X7_clean_y {l : Launch} {Δ : zDl} {ad : zK → Nat} {P : zP} {S : zS} {X : zMem} {Q : zP} {t : Int} (hV : zWM Q S) (hX0 : X (90, 0, 0, 0) = none) (ht : 0 ≤ t ∧ t < Q 0 0 0) (h61 : Q 61 0 0 = P 61 0 0) (h1 : S (50, 0, 0, 0) t = 0) : zMn l Δ yX7_clean cX7_clean 3 (some .int) 9 0 0 [.ref (ad (40, 0, 0, 0)), .int (zI t)] ad (mm Δ ad P S X) (zD (some (.int (zI 0))) ad (mm Δ ad P (zst S (40, 0, 0, 0) 0 2) X)) := by
  refine zMn_of (by decide) (Nat.le_of_ble_eq_true rfl) (fun Γ hl hΔ hF => ?_)
  subst hl hΔ
  show G Γ _ _ _ RX7 _ _ _ _ _ [(0, .ref (ad (40, 0, 0, 0))), (1, .int (zI t))] []
  have hq := hV.q
  have h4 := hV.t4
  have hqt := hV.qt ht
  refine G_aload_n (pc := 0) 0 0 dX7_clean_0 rfl rfl ?_
  refine G_iconst (pc := 1) dX7_clean_1 ?_
  refine G_putf (pc := 2) fl_X7_93 fp_X7_0 dX7_clean_2 mg_40 (Nat.le_of_ble_eq_true rfl) rfl rfl (mp_40_0 _) ?_
  refine G_name (fun S1_2 hS1_2 => ?_)
  have hVS1_2 : zWM Q S1_2 := by rw [hS1_2]; exact hV.s40_0 (by first | assumption | exact ⟨by omega, by omega⟩)
  have h45 := hVS1_2.t4
  have h50 : S1_2 (50, 0, 0, 0) t = S (50, 0, 0, 0) t := by rw [hS1_2, zst_k _ _ _ _ (by simp)]
  refine G_aload_n (pc := 5) 0 0 dX7_clean_5 rfl rfl ?_
  refine G_iload_n (pc := 6) 1 1 dX7_clean_6 rfl rfl ?_
  refine G_callVd (pc := 7) gk_X7_103 dX7_clean_7 mg_40 rfl (c_X7_isTopic (Q := Q) (by first | assumption | omega | exact ⟨by omega, by omega⟩ | exact hS _ _ | exact hT _ _) (by first | assumption | omega | exact ⟨by omega, by omega⟩ | exact hS _ _ | exact hT _ _)) rfl rfl (Nat.le_of_ble_eq_true rfl) ⟨⟨Nat.le_of_ble_eq_true rfl, Nat.le_of_ble_eq_true rfl⟩, Nat.le_of_ble_eq_true rfl, Nat.le_of_ble_eq_true rfl⟩ ?_
  refine G_if_ne_b (pc := 10) 19 dX7_clean_10 (by decide) (fun c10 => ?_) (fun c10 => ?_)
  · refine G_aload_n (pc := 19) 0 0 dX7_clean_19 rfl rfl ?_
    refine G_getf (pc := 20) fl_X7_32 dX7_clean_20 mg_40 rfl ?_
    refine G_iload_n (pc := 23) 1 1 dX7_clean_23 rfl rfl ?_
    refine G_zald (pc := 24) dX7_clean_24 mg_50 ⟨by omega, by omega, by omega, by omega⟩ ?_
    have hb24 := hVS1_2.b50 (t)
    refine G_if_ne (pc := 25) 34 dX7_clean_25 (by decide) (by first | exact hS _ _ | exact hT _ _ | exact ⟨by omega, by omega⟩ | assumption | exact zWM.r (by assumption) _ _ (by decide)) (fun c25 => ?_) (fun c25 => ?_)
    · exfalso
      omega
    · refine G_aload_n (pc := 28) 0 0 dX7_clean_28 rfl rfl ?_
      refine G_iconst (pc := 29) dX7_clean_29 ?_
      refine G_callVd (pc := 30) gk_X7_134 dX7_clean_30 mg_40 rfl (c_X7_no (Q := Q) (by first | assumption | omega | exact ⟨by omega, by omega⟩ | exact hS _ _ | exact hT _ _) (by first | assumption | omega | exact ⟨by omega, by omega⟩ | exact hS _ _ | exact hT _ _)) rfl rfl (Nat.le_of_ble_eq_true rfl) ⟨⟨Nat.le_of_ble_eq_true rfl, Nat.le_of_ble_eq_true rfl⟩, Nat.le_of_ble_eq_true rfl, Nat.le_of_ble_eq_true rfl⟩ ?_
      refine G_name (fun S2_30 hS2_30 => ?_)
      have hVS2_30 : zWM Q S2_30 := by rw [hS2_30]; exact hVS1_2.s40_0 (by first | assumption | exact ⟨by omega, by omega⟩)
      exact G_iret_m (pc := 33) hF dX7_clean_33 ⟨Nat.le_of_ble_eq_true rfl, Nat.le_of_ble_eq_true rfl⟩ (by first | rfl | omega | simp_all) (by rw [hS2_30, hS1_2, zst_zst])
  · exfalso
    omega
set_option maxHeartbeats 4000000 in
set_option maxRecDepth 100000 in
theorem c_X7_setPatience {l : Launch} {Δ : zDl} {ad : zK → Nat} {P : zP} {S : zS} {X : zMem} {Q : zP} {x y : Int} (hV : zWM Q S) (hx : 1 ≤ x ∧ x ≤ 20) (hy : 1 ≤ y ∧ y ≤ 50) : zMn l Δ yX7_setPatience cX7_setPatience 4 (some .int) 9 0 0 [.ref (ad (40, 0, 0, 0)), .int (zI x), .int (zI y)] ad (mm Δ ad P S X) (zD (some (.int (zI (S (40, 0, 0, 0) 2)))) ad (mm Δ ad P (zst (zst (zst S (40, 0, 0, 0) 0 0) (40, 0, 0, 0) 2 x) (40, 0, 0, 0) 3 y) X)) := by
  refine zMn_of (by decide) (Nat.le_of_ble_eq_true rfl) (fun Γ hl hΔ hF => ?_)
  subst hl hΔ
  show G Γ _ _ _ RX7 _ _ _ _ _ [(0, .ref (ad (40, 0, 0, 0))), (1, .int (zI x)), (2, .int (zI y))] []
  have hq := hV.q
  refine G_aload_n (pc := 0) 0 0 dX7_setPatience_0 rfl rfl ?_
  refine G_iconst (pc := 1) dX7_setPatience_1 ?_
  refine G_putf (pc := 2) fl_X7_93 fp_X7_0 dX7_setPatience_2 mg_40 (Nat.le_of_ble_eq_true rfl) rfl rfl (mp_40_0 _) ?_
  refine G_name (fun S1_2 hS1_2 => ?_)
  have hVS1_2 : zWM Q S1_2 := by rw [hS1_2]; exact hV.s40_0 (by first | assumption | exact ⟨by omega, by omega⟩)
  refine G_iload_n (pc := 5) 1 1 dX7_setPatience_5 rfl rfl ?_
  refine G_iconst (pc := 6) dX7_setPatience_6 ?_
  refine G_bipush (pc := 7) dX7_setPatience_7 (by decide) ?_
  refine G_callSd (pc := 9) gk_X7_99 dX7_setPatience_9 (c_X7_isWithin (by first | assumption | omega | exact ⟨by omega, by omega⟩ | exact hS _ _ | exact hT _ _) (by first | assumption | omega | exact ⟨by omega, by omega⟩ | exact hS _ _ | exact hT _ _) (by first | assumption | omega | exact ⟨by omega, by omega⟩ | exact hS _ _ | exact hT _ _)) rfl rfl (Nat.le_of_ble_eq_true rfl) ⟨⟨Nat.le_of_ble_eq_true rfl, Nat.le_of_ble_eq_true rfl⟩, Nat.le_of_ble_eq_true rfl, Nat.le_of_ble_eq_true rfl⟩ ?_
  refine G_if_eq_b (pc := 12) 25 dX7_setPatience_12 (by decide) (fun c12 => ?_) (fun c12 => ?_)
  · exfalso
    omega
  · refine G_iload_n (pc := 15) 2 2 dX7_setPatience_15 rfl rfl ?_
    refine G_iconst (pc := 16) dX7_setPatience_16 ?_
    refine G_bipush (pc := 17) dX7_setPatience_17 (by decide) ?_
    refine G_callSd (pc := 19) gk_X7_99 dX7_setPatience_19 (c_X7_isWithin (by first | assumption | omega | exact ⟨by omega, by omega⟩ | exact hS _ _ | exact hT _ _) (by first | assumption | omega | exact ⟨by omega, by omega⟩ | exact hS _ _ | exact hT _ _) (by first | assumption | omega | exact ⟨by omega, by omega⟩ | exact hS _ _ | exact hT _ _)) rfl rfl (Nat.le_of_ble_eq_true rfl) ⟨⟨Nat.le_of_ble_eq_true rfl, Nat.le_of_ble_eq_true rfl⟩, Nat.le_of_ble_eq_true rfl, Nat.le_of_ble_eq_true rfl⟩ ?_
    refine G_if_ne_b (pc := 22) 31 dX7_setPatience_22 (by decide) (fun c22 => ?_) (fun c22 => ?_)
    · refine G_aload_n (pc := 31) 0 0 dX7_setPatience_31 rfl rfl ?_
      refine G_getf (pc := 32) fl_X7_7 dX7_setPatience_32 mg_40 rfl ?_
      have hb32 := hVS1_2.f2
      refine G_istore_ne (pc := 35) 3 (fun zw => [(3, .int (zI zw)), (0, .ref (ad (40, 0, 0, 0))), (1, .int (zI x)), (2, .int (zI y))]) dX7_setPatience_35 rfl (by decide) (fun _ => rfl) (fun v35 e35 => ?_)
      refine G_aload_n (pc := 36) 0 1 dX7_setPatience_36 rfl rfl ?_
      refine G_iload_n (pc := 37) 1 2 dX7_setPatience_37 rfl rfl ?_
      refine G_putf (pc := 38) fl_X7_7 fp_X7_2 dX7_setPatience_38 mg_40 (Nat.le_of_ble_eq_true rfl) rfl rfl (mp_40_2 _) ?_
      refine G_name (fun S2_38 hS2_38 => ?_)
      have hVS2_38 : zWM Q S2_38 := by rw [hS2_38]; exact hVS1_2.s40_2 (by first | assumption | exact ⟨by omega, by omega⟩)
      refine G_aload_n (pc := 41) 0 1 dX7_setPatience_41 rfl rfl ?_
      refine G_iload_n (pc := 42) 2 3 dX7_setPatience_42 rfl rfl ?_
      refine G_putf (pc := 43) fl_X7_13 fp_X7_3 dX7_setPatience_43 mg_40 (Nat.le_of_ble_eq_true rfl) rfl rfl (mp_40_3 _) ?_
      refine G_name (fun S3_43 hS3_43 => ?_)
      have hVS3_43 : zWM Q S3_43 := by rw [hS3_43]; exact hVS2_38.s40_3 (by first | assumption | exact ⟨by omega, by omega⟩)
      refine G_iload_n (pc := 46) 3 0 dX7_setPatience_46 rfl rfl ?_
      exact G_iret_m (pc := 47) hF dX7_setPatience_47 ⟨Nat.le_of_ble_eq_true rfl, Nat.le_of_ble_eq_true rfl⟩ (by rw [e35, hS1_2, zst_f _ _ _ (by decide)]) (by rw [hS3_43, hS2_38, hS1_2])
    · exfalso
      omega
set_option maxHeartbeats 4000000 in
set_option maxRecDepth 100000 in
theorem c_X7_setPatience_y {l : Launch} {Δ : zDl} {ad : zK → Nat} {P : zP} {S : zS} {X : zMem} {Q : zP} {x y : Int} (hV : zWM Q S) (hrx : zR x) (hry : zR y) (hn : ¬ ((1 ≤ x ∧ x ≤ 20) ∧ (1 ≤ y ∧ y ≤ 50))) : zMn l Δ yX7_setPatience cX7_setPatience 4 (some .int) 9 0 0 [.ref (ad (40, 0, 0, 0)), .int (zI x), .int (zI y)] ad (mm Δ ad P S X) (zD (some (.int (zI 0))) ad (mm Δ ad P (zst S (40, 0, 0, 0) 0 1) X)) := by
  refine zMn_of (by decide) (Nat.le_of_ble_eq_true rfl) (fun Γ hl hΔ hF => ?_)
  subst hl hΔ
  show G Γ _ _ _ RX7 _ _ _ _ _ [(0, .ref (ad (40, 0, 0, 0))), (1, .int (zI x)), (2, .int (zI y))] []
  have hq := hV.q
  refine G_aload_n (pc := 0) 0 0 dX7_setPatience_0 rfl rfl ?_
  refine G_iconst (pc := 1) dX7_setPatience_1 ?_
  refine G_putf (pc := 2) fl_X7_93 fp_X7_0 dX7_setPatience_2 mg_40 (Nat.le_of_ble_eq_true rfl) rfl rfl (mp_40_0 _) ?_
  refine G_name (fun S1_2 hS1_2 => ?_)
  have hVS1_2 : zWM Q S1_2 := by rw [hS1_2]; exact hV.s40_0 (by first | assumption | exact ⟨by omega, by omega⟩)
  refine G_iload_n (pc := 5) 1 1 dX7_setPatience_5 rfl rfl ?_
  refine G_iconst (pc := 6) dX7_setPatience_6 ?_
  refine G_bipush (pc := 7) dX7_setPatience_7 (by decide) ?_
  refine G_callSd (pc := 9) gk_X7_99 dX7_setPatience_9 (c_X7_isWithin (by first | assumption | omega | exact ⟨by omega, by omega⟩ | exact hS _ _ | exact hT _ _) (by first | assumption | omega | exact ⟨by omega, by omega⟩ | exact hS _ _ | exact hT _ _) (by first | assumption | omega | exact ⟨by omega, by omega⟩ | exact hS _ _ | exact hT _ _)) rfl rfl (Nat.le_of_ble_eq_true rfl) ⟨⟨Nat.le_of_ble_eq_true rfl, Nat.le_of_ble_eq_true rfl⟩, Nat.le_of_ble_eq_true rfl, Nat.le_of_ble_eq_true rfl⟩ ?_
  refine G_if_eq_b (pc := 12) 25 dX7_setPatience_12 (by decide) (fun c12 => ?_) (fun c12 => ?_)
  · refine G_aload_n (pc := 25) 0 0 dX7_setPatience_25 rfl rfl ?_
    refine G_iconst (pc := 26) dX7_setPatience_26 ?_
    refine G_callVd (pc := 27) gk_X7_134 dX7_setPatience_27 mg_40 rfl (c_X7_no (Q := Q) (by first | assumption | omega | exact ⟨by omega, by omega⟩ | exact hS _ _ | exact hT _ _) (by first | assumption | omega | exact ⟨by omega, by omega⟩ | exact hS _ _ | exact hT _ _)) rfl rfl (Nat.le_of_ble_eq_true rfl) ⟨⟨Nat.le_of_ble_eq_true rfl, Nat.le_of_ble_eq_true rfl⟩, Nat.le_of_ble_eq_true rfl, Nat.le_of_ble_eq_true rfl⟩ ?_
    refine G_name (fun S2_27 hS2_27 => ?_)
    have hVS2_27 : zWM Q S2_27 := by rw [hS2_27]; exact hVS1_2.s40_0 (by first | assumption | exact ⟨by omega, by omega⟩)
    exact G_iret_m (pc := 30) hF dX7_setPatience_30 ⟨Nat.le_of_ble_eq_true rfl, Nat.le_of_ble_eq_true rfl⟩ (by first | rfl | omega | simp_all) (by rw [hS2_27, hS1_2, zst_zst])
  · refine G_iload_n (pc := 15) 2 2 dX7_setPatience_15 rfl rfl ?_
    refine G_iconst (pc := 16) dX7_setPatience_16 ?_
    refine G_bipush (pc := 17) dX7_setPatience_17 (by decide) ?_
    refine G_callSd (pc := 19) gk_X7_99 dX7_setPatience_19 (c_X7_isWithin (by first | assumption | omega | exact ⟨by omega, by omega⟩ | exact hS _ _ | exact hT _ _) (by first | assumption | omega | exact ⟨by omega, by omega⟩ | exact hS _ _ | exact hT _ _) (by first | assumption | omega | exact ⟨by omega, by omega⟩ | exact hS _ _ | exact hT _ _)) rfl rfl (Nat.le_of_ble_eq_true rfl) ⟨⟨Nat.le_of_ble_eq_true rfl, Nat.le_of_ble_eq_true rfl⟩, Nat.le_of_ble_eq_true rfl, Nat.le_of_ble_eq_true rfl⟩ ?_
    refine G_if_ne_b (pc := 22) 31 dX7_setPatience_22 (by decide) (fun c22 => ?_) (fun c22 => ?_)
    · exfalso
      omega
    · refine G_aload_n (pc := 25) 0 0 dX7_setPatience_25 rfl rfl ?_
      refine G_iconst (pc := 26) dX7_setPatience_26 ?_
      refine G_callVd (pc := 27) gk_X7_134 dX7_setPatience_27 mg_40 rfl (c_X7_no (Q := Q) (by first | assumption | omega | exact ⟨by omega, by omega⟩ | exact hS _ _ | exact hT _ _) (by first | assumption | omega | exact ⟨by omega, by omega⟩ | exact hS _ _ | exact hT _ _)) rfl rfl (Nat.le_of_ble_eq_true rfl) ⟨⟨Nat.le_of_ble_eq_true rfl, Nat.le_of_ble_eq_true rfl⟩, Nat.le_of_ble_eq_true rfl, Nat.le_of_ble_eq_true rfl⟩ ?_
      refine G_name (fun S3_27 hS3_27 => ?_)
      have hVS3_27 : zWM Q S3_27 := by rw [hS3_27]; exact hVS1_2.s40_0 (by first | assumption | exact ⟨by omega, by omega⟩)
      exact G_iret_m (pc := 30) hF dX7_setPatience_30 ⟨Nat.le_of_ble_eq_true rfl, Nat.le_of_ble_eq_true rfl⟩ (by first | rfl | omega | simp_all) (by rw [hS3_27, hS1_2, zst_zst])
set_option maxHeartbeats 4000000 in
set_option maxRecDepth 100000 in
theorem c_X7_ofShare_65 {l : Launch} {Δ : zDl} {ad : zK → Nat} {P : zP} {S : zS} {X : zMem} {Q : zP} {g p : Int} (hV : zWM Q S) (hg : 0 ≤ g ∧ g < Q 3 0 0) (hp : 0 ≤ p ∧ p < Q 1 (Q 4 g 0) 0) : zMn l Δ yX7_ofShare cX7_ofShare 4 (some .int) 5 0 0 [.ref (ad (40, 0, 0, 0)), .int (zI g), .int (zI p), .ref (ad (65, 0, 0, 0))] ad (mm Δ ad P S X) (zD (some (.int (zI ((zst S (40, 0, 0, 0) 0 0) (65, 0, 0, 0) (g * 4 + p))))) ad (mm Δ ad P (zst S (40, 0, 0, 0) 0 0) X)) := by
  refine zMn_of (by decide) (Nat.le_of_ble_eq_true rfl) (fun Γ hl hΔ hF => ?_)
  subst hl hΔ
  show G Γ _ _ _ RX7 _ _ _ _ _ [(0, .ref (ad (40, 0, 0, 0))), (1, .int (zI g)), (2, .int (zI p)), (3, .ref (ad (65, 0, 0, 0)))] []
  have hq := hV.q
  have hqg := hV.qg hg
  have hqt := hV.qt hqg
  have hgt := hV.gt hg
  have hgn := hV.gn hg
  have hqm := hV.qm hqg hp
  have hen := hV.en hqg hp
  refine G_aload_n (pc := 0) 0 0 dX7_ofShare_0 rfl rfl ?_
  refine G_iconst (pc := 1) dX7_ofShare_1 ?_
  refine G_putf (pc := 2) fl_X7_93 fp_X7_0 dX7_ofShare_2 mg_40 (Nat.le_of_ble_eq_true rfl) rfl rfl (mp_40_0 _) ?_
  refine G_name (fun S1_2 hS1_2 => ?_)
  have hVS1_2 : zWM Q S1_2 := by rw [hS1_2]; exact hV.s40_0 (by first | assumption | exact ⟨by omega, by omega⟩)
  refine G_aload_n (pc := 5) 0 0 dX7_ofShare_5 rfl rfl ?_
  refine G_iload_n (pc := 6) 1 1 dX7_ofShare_6 rfl rfl ?_
  refine G_iload_n (pc := 7) 2 2 dX7_ofShare_7 rfl rfl ?_
  refine G_callVd (pc := 8) gk_X7_220 dX7_ofShare_8 mg_40 rfl (c_X7_isShare (Q := Q) (by first | assumption | omega | exact ⟨by omega, by omega⟩ | exact hS _ _ | exact hT _ _) (by first | assumption | omega | exact ⟨by omega, by omega⟩ | exact hS _ _ | exact hT _ _) (by first | assumption | omega | exact ⟨by omega, by omega⟩ | exact hS _ _ | exact hT _ _)) rfl rfl (Nat.le_of_ble_eq_true rfl) ⟨⟨Nat.le_of_ble_eq_true rfl, Nat.le_of_ble_eq_true rfl⟩, Nat.le_of_ble_eq_true rfl, Nat.le_of_ble_eq_true rfl⟩ ?_
  refine G_if_eq_b (pc := 11) 24 dX7_ofShare_11 (by decide) (fun c11 => ?_) (fun c11 => ?_)
  · exfalso
    exact c11 ⟨hg, hp⟩
  · refine G_aload_n (pc := 14) 3 3 dX7_ofShare_14 rfl rfl ?_
    refine G_iload_n (pc := 15) 1 1 dX7_ofShare_15 rfl rfl ?_
    refine G_iconst (pc := 16) dX7_ofShare_16 ?_
    refine G_imul (pc := 17) dX7_ofShare_17 ?_
    refine G_iload_n (pc := 18) 2 2 dX7_ofShare_18 rfl rfl ?_
    refine G_iadd (pc := 19) dX7_ofShare_19 ?_
    refine G_iald (pc := 20) dX7_ofShare_20 mg_65 ⟨by omega, by omega, by omega, by omega⟩ ?_
    have hb20 := hVS1_2.b65 ((g * 4) + p)
    refine G_goto (pc := 21) 29 dX7_ofShare_21 (by decide) ?_
    exact G_iret_m (pc := 29) hF dX7_ofShare_29 ⟨Nat.le_of_ble_eq_true rfl, Nat.le_of_ble_eq_true rfl⟩ (by rw [hS1_2]) (by rw [hS1_2])
set_option maxHeartbeats 4000000 in
set_option maxRecDepth 100000 in
theorem c_X7_mark {l : Launch} {Δ : zDl} {ad : zK → Nat} {P : zP} {S : zS} {X : zMem} {Q : zP} {g p : Int} (hV : zWM Q S) (hg : 0 ≤ g ∧ g < Q 3 0 0) (hp : 0 ≤ p ∧ p < Q 1 (Q 4 g 0) 0) : zMn l Δ yX7_mark cX7_mark 3 (some .int) 9 0 0 [.ref (ad (40, 0, 0, 0)), .int (zI g), .int (zI p)] ad (mm Δ ad P S X) (zD (some (.int (zI ((zst S (40, 0, 0, 0) 0 0) (65, 0, 0, 0) (g * 4 + p))))) ad (mm Δ ad P (zst S (40, 0, 0, 0) 0 0) X)) := by
  refine zMn_of (by decide) (Nat.le_of_ble_eq_true rfl) (fun Γ hl hΔ hF => ?_)
  subst hl hΔ
  show G Γ _ _ _ RX7 _ _ _ _ _ [(0, .ref (ad (40, 0, 0, 0))), (1, .int (zI g)), (2, .int (zI p))] []
  have hq := hV.q
  refine G_aload_n (pc := 0) 0 0 dX7_mark_0 rfl rfl ?_
  refine G_iload_n (pc := 1) 1 1 dX7_mark_1 rfl rfl ?_
  refine G_iload_n (pc := 2) 2 2 dX7_mark_2 rfl rfl ?_
  refine G_aload_n (pc := 3) 0 0 dX7_mark_3 rfl rfl ?_
  refine G_getf (pc := 4) fl_X7_69 dX7_mark_4 mg_40 rfl ?_
  refine G_callVd (pc := 7) gk_X7_227 dX7_mark_7 mg_40 rfl (c_X7_ofShare_65 (Q := Q) (by first | assumption | omega | exact ⟨by omega, by omega⟩ | exact hS _ _ | exact hT _ _) (by first | assumption | omega | exact ⟨by omega, by omega⟩ | exact hS _ _ | exact hT _ _) (by first | assumption | omega | exact ⟨by omega, by omega⟩ | exact hS _ _ | exact hT _ _)) rfl rfl (Nat.le_of_ble_eq_true rfl) ⟨⟨Nat.le_of_ble_eq_true rfl, Nat.le_of_ble_eq_true rfl⟩, Nat.le_of_ble_eq_true rfl, Nat.le_of_ble_eq_true rfl⟩ ?_
  refine G_name (fun S1_7 hS1_7 => ?_)
  exact G_iret_m (pc := 10) hF dX7_mark_10 ⟨Nat.le_of_ble_eq_true rfl, Nat.le_of_ble_eq_true rfl⟩ (by first | rfl | omega | simp_all) (by rw [hS1_7])
set_option maxHeartbeats 4000000 in
set_option maxRecDepth 100000 in
theorem c_X7_ofShare_65_x {l : Launch} {Δ : zDl} {ad : zK → Nat} {P : zP} {S : zS} {X : zMem} {Q : zP} {g p : Int} (hV : zWM Q S) (hrg : zR g) (hrp : zR p) (hn : ¬ ((0 ≤ g ∧ g < Q 3 0 0) ∧ (0 ≤ p ∧ p < Q 1 (Q 4 g 0) 0))) : zMn l Δ yX7_ofShare cX7_ofShare 4 (some .int) 5 0 0 [.ref (ad (40, 0, 0, 0)), .int (zI g), .int (zI p), .ref (ad (65, 0, 0, 0))] ad (mm Δ ad P S X) (zD (some (.int (zI 0))) ad (mm Δ ad P (zst S (40, 0, 0, 0) 0 1) X)) := by
  refine zMn_of (by decide) (Nat.le_of_ble_eq_true rfl) (fun Γ hl hΔ hF => ?_)
  subst hl hΔ
  show G Γ _ _ _ RX7 _ _ _ _ _ [(0, .ref (ad (40, 0, 0, 0))), (1, .int (zI g)), (2, .int (zI p)), (3, .ref (ad (65, 0, 0, 0)))] []
  refine G_aload_n (pc := 0) 0 0 dX7_ofShare_0 rfl rfl ?_
  refine G_iconst (pc := 1) dX7_ofShare_1 ?_
  refine G_putf (pc := 2) fl_X7_93 fp_X7_0 dX7_ofShare_2 mg_40 (Nat.le_of_ble_eq_true rfl) rfl rfl (mp_40_0 _) ?_
  refine G_name (fun S1_2 hS1_2 => ?_)
  have hVS1_2 : zWM Q S1_2 := by rw [hS1_2]; exact hV.s40_0 (by first | assumption | exact ⟨by omega, by omega⟩)
  refine G_aload_n (pc := 5) 0 0 dX7_ofShare_5 rfl rfl ?_
  refine G_iload_n (pc := 6) 1 1 dX7_ofShare_6 rfl rfl ?_
  refine G_iload_n (pc := 7) 2 2 dX7_ofShare_7 rfl rfl ?_
  refine G_callVd (pc := 8) gk_X7_220 dX7_ofShare_8 mg_40 rfl (c_X7_isShare (Q := Q) (by first | assumption | omega | exact ⟨by omega, by omega⟩ | exact hS _ _ | exact hT _ _) (by first | assumption | omega | exact ⟨by omega, by omega⟩ | exact hS _ _ | exact hT _ _) (by first | assumption | omega | exact ⟨by omega, by omega⟩ | exact hS _ _ | exact hT _ _)) rfl rfl (Nat.le_of_ble_eq_true rfl) ⟨⟨Nat.le_of_ble_eq_true rfl, Nat.le_of_ble_eq_true rfl⟩, Nat.le_of_ble_eq_true rfl, Nat.le_of_ble_eq_true rfl⟩ ?_
  refine G_if_eq_b (pc := 11) 24 dX7_ofShare_11 (by decide) (fun c11 => ?_) (fun c11 => ?_)
  · refine G_aload_n (pc := 24) 0 0 dX7_ofShare_24 rfl rfl ?_
    refine G_iconst (pc := 25) dX7_ofShare_25 ?_
    refine G_callVd (pc := 26) gk_X7_134 dX7_ofShare_26 mg_40 rfl (c_X7_no (Q := Q) (by first | assumption | omega | exact ⟨by omega, by omega⟩ | exact hS _ _ | exact hT _ _) (by first | assumption | omega | exact ⟨by omega, by omega⟩ | exact hS _ _ | exact hT _ _)) rfl rfl (Nat.le_of_ble_eq_true rfl) ⟨⟨Nat.le_of_ble_eq_true rfl, Nat.le_of_ble_eq_true rfl⟩, Nat.le_of_ble_eq_true rfl, Nat.le_of_ble_eq_true rfl⟩ ?_
    refine G_name (fun S2_26 hS2_26 => ?_)
    have hVS2_26 : zWM Q S2_26 := by rw [hS2_26]; exact hVS1_2.s40_0 (by first | assumption | exact ⟨by omega, by omega⟩)
    exact G_iret_m (pc := 29) hF dX7_ofShare_29 ⟨Nat.le_of_ble_eq_true rfl, Nat.le_of_ble_eq_true rfl⟩ (by first | rfl | omega | simp_all) (by rw [hS2_26, hS1_2, zst_zst])
  · exfalso
    exact hn c11
set_option maxHeartbeats 4000000 in
set_option maxRecDepth 100000 in
theorem c_X7_mark_x {l : Launch} {Δ : zDl} {ad : zK → Nat} {P : zP} {S : zS} {X : zMem} {Q : zP} {g p : Int} (hV : zWM Q S) (hrg : zR g) (hrp : zR p) (hn : ¬ ((0 ≤ g ∧ g < Q 3 0 0) ∧ (0 ≤ p ∧ p < Q 1 (Q 4 g 0) 0))) : zMn l Δ yX7_mark cX7_mark 3 (some .int) 9 0 0 [.ref (ad (40, 0, 0, 0)), .int (zI g), .int (zI p)] ad (mm Δ ad P S X) (zD (some (.int (zI 0))) ad (mm Δ ad P (zst S (40, 0, 0, 0) 0 1) X)) := by
  refine zMn_of (by decide) (Nat.le_of_ble_eq_true rfl) (fun Γ hl hΔ hF => ?_)
  subst hl hΔ
  show G Γ _ _ _ RX7 _ _ _ _ _ [(0, .ref (ad (40, 0, 0, 0))), (1, .int (zI g)), (2, .int (zI p))] []
  have hq := hV.q
  refine G_aload_n (pc := 0) 0 0 dX7_mark_0 rfl rfl ?_
  refine G_iload_n (pc := 1) 1 1 dX7_mark_1 rfl rfl ?_
  refine G_iload_n (pc := 2) 2 2 dX7_mark_2 rfl rfl ?_
  refine G_aload_n (pc := 3) 0 0 dX7_mark_3 rfl rfl ?_
  refine G_getf (pc := 4) fl_X7_69 dX7_mark_4 mg_40 rfl ?_
  refine G_callVd (pc := 7) gk_X7_227 dX7_mark_7 mg_40 rfl (c_X7_ofShare_65_x (Q := Q) (by first | assumption | omega | exact ⟨by omega, by omega⟩ | exact hS _ _ | exact hT _ _) (by first | assumption | omega | exact ⟨by omega, by omega⟩ | exact hS _ _ | exact hT _ _) (by first | assumption | omega | exact ⟨by omega, by omega⟩ | exact hS _ _ | exact hT _ _) (by first | assumption | omega | exact ⟨by omega, by omega⟩ | exact hS _ _ | exact hT _ _)) rfl rfl (Nat.le_of_ble_eq_true rfl) ⟨⟨Nat.le_of_ble_eq_true rfl, Nat.le_of_ble_eq_true rfl⟩, Nat.le_of_ble_eq_true rfl, Nat.le_of_ble_eq_true rfl⟩ ?_
  refine G_name (fun S1_7 hS1_7 => ?_)
  exact G_iret_m (pc := 10) hF dX7_mark_10 ⟨Nat.le_of_ble_eq_true rfl, Nat.le_of_ble_eq_true rfl⟩ (by first | rfl | omega | simp_all) (by rw [hS1_7])
set_option maxHeartbeats 4000000 in
set_option maxRecDepth 100000 in
theorem c_X7_ofShare_66 {l : Launch} {Δ : zDl} {ad : zK → Nat} {P : zP} {S : zS} {X : zMem} {Q : zP} {g p : Int} (hV : zWM Q S) (hg : 0 ≤ g ∧ g < Q 3 0 0) (hp : 0 ≤ p ∧ p < Q 1 (Q 4 g 0) 0) : zMn l Δ yX7_ofShare cX7_ofShare 4 (some .int) 5 0 0 [.ref (ad (40, 0, 0, 0)), .int (zI g), .int (zI p), .ref (ad (66, 0, 0, 0))] ad (mm Δ ad P S X) (zD (some (.int (zI ((zst S (40, 0, 0, 0) 0 0) (66, 0, 0, 0) (g * 4 + p))))) ad (mm Δ ad P (zst S (40, 0, 0, 0) 0 0) X)) := by
  refine zMn_of (by decide) (Nat.le_of_ble_eq_true rfl) (fun Γ hl hΔ hF => ?_)
  subst hl hΔ
  show G Γ _ _ _ RX7 _ _ _ _ _ [(0, .ref (ad (40, 0, 0, 0))), (1, .int (zI g)), (2, .int (zI p)), (3, .ref (ad (66, 0, 0, 0)))] []
  have hq := hV.q
  have hqg := hV.qg hg
  have hqt := hV.qt hqg
  have hgt := hV.gt hg
  have hgn := hV.gn hg
  have hqm := hV.qm hqg hp
  have hen := hV.en hqg hp
  refine G_aload_n (pc := 0) 0 0 dX7_ofShare_0 rfl rfl ?_
  refine G_iconst (pc := 1) dX7_ofShare_1 ?_
  refine G_putf (pc := 2) fl_X7_93 fp_X7_0 dX7_ofShare_2 mg_40 (Nat.le_of_ble_eq_true rfl) rfl rfl (mp_40_0 _) ?_
  refine G_name (fun S1_2 hS1_2 => ?_)
  have hVS1_2 : zWM Q S1_2 := by rw [hS1_2]; exact hV.s40_0 (by first | assumption | exact ⟨by omega, by omega⟩)
  refine G_aload_n (pc := 5) 0 0 dX7_ofShare_5 rfl rfl ?_
  refine G_iload_n (pc := 6) 1 1 dX7_ofShare_6 rfl rfl ?_
  refine G_iload_n (pc := 7) 2 2 dX7_ofShare_7 rfl rfl ?_
  refine G_callVd (pc := 8) gk_X7_220 dX7_ofShare_8 mg_40 rfl (c_X7_isShare (Q := Q) (by first | assumption | omega | exact ⟨by omega, by omega⟩ | exact hS _ _ | exact hT _ _) (by first | assumption | omega | exact ⟨by omega, by omega⟩ | exact hS _ _ | exact hT _ _) (by first | assumption | omega | exact ⟨by omega, by omega⟩ | exact hS _ _ | exact hT _ _)) rfl rfl (Nat.le_of_ble_eq_true rfl) ⟨⟨Nat.le_of_ble_eq_true rfl, Nat.le_of_ble_eq_true rfl⟩, Nat.le_of_ble_eq_true rfl, Nat.le_of_ble_eq_true rfl⟩ ?_
  refine G_if_eq_b (pc := 11) 24 dX7_ofShare_11 (by decide) (fun c11 => ?_) (fun c11 => ?_)
  · exfalso
    exact c11 ⟨hg, hp⟩
  · refine G_aload_n (pc := 14) 3 3 dX7_ofShare_14 rfl rfl ?_
    refine G_iload_n (pc := 15) 1 1 dX7_ofShare_15 rfl rfl ?_
    refine G_iconst (pc := 16) dX7_ofShare_16 ?_
    refine G_imul (pc := 17) dX7_ofShare_17 ?_
    refine G_iload_n (pc := 18) 2 2 dX7_ofShare_18 rfl rfl ?_
    refine G_iadd (pc := 19) dX7_ofShare_19 ?_
    refine G_iald (pc := 20) dX7_ofShare_20 mg_66 ⟨by omega, by omega, by omega, by omega⟩ ?_
    have hb20 := hVS1_2.b66 ((g * 4) + p)
    refine G_goto (pc := 21) 29 dX7_ofShare_21 (by decide) ?_
    exact G_iret_m (pc := 29) hF dX7_ofShare_29 ⟨Nat.le_of_ble_eq_true rfl, Nat.le_of_ble_eq_true rfl⟩ (by rw [hS1_2]) (by rw [hS1_2])
set_option maxHeartbeats 4000000 in
set_option maxRecDepth 100000 in
theorem c_X7_cursor {l : Launch} {Δ : zDl} {ad : zK → Nat} {P : zP} {S : zS} {X : zMem} {Q : zP} {g p : Int} (hV : zWM Q S) (hg : 0 ≤ g ∧ g < Q 3 0 0) (hp : 0 ≤ p ∧ p < Q 1 (Q 4 g 0) 0) : zMn l Δ yX7_cursor cX7_cursor 3 (some .int) 9 0 0 [.ref (ad (40, 0, 0, 0)), .int (zI g), .int (zI p)] ad (mm Δ ad P S X) (zD (some (.int (zI ((zst S (40, 0, 0, 0) 0 0) (66, 0, 0, 0) (g * 4 + p))))) ad (mm Δ ad P (zst S (40, 0, 0, 0) 0 0) X)) := by
  refine zMn_of (by decide) (Nat.le_of_ble_eq_true rfl) (fun Γ hl hΔ hF => ?_)
  subst hl hΔ
  show G Γ _ _ _ RX7 _ _ _ _ _ [(0, .ref (ad (40, 0, 0, 0))), (1, .int (zI g)), (2, .int (zI p))] []
  have hq := hV.q
  refine G_aload_n (pc := 0) 0 0 dX7_cursor_0 rfl rfl ?_
  refine G_iload_n (pc := 1) 1 1 dX7_cursor_1 rfl rfl ?_
  refine G_iload_n (pc := 2) 2 2 dX7_cursor_2 rfl rfl ?_
  refine G_aload_n (pc := 3) 0 0 dX7_cursor_3 rfl rfl ?_
  refine G_getf (pc := 4) fl_X7_72 dX7_cursor_4 mg_40 rfl ?_
  refine G_callVd (pc := 7) gk_X7_227 dX7_cursor_7 mg_40 rfl (c_X7_ofShare_66 (Q := Q) (by first | assumption | omega | exact ⟨by omega, by omega⟩ | exact hS _ _ | exact hT _ _) (by first | assumption | omega | exact ⟨by omega, by omega⟩ | exact hS _ _ | exact hT _ _) (by first | assumption | omega | exact ⟨by omega, by omega⟩ | exact hS _ _ | exact hT _ _)) rfl rfl (Nat.le_of_ble_eq_true rfl) ⟨⟨Nat.le_of_ble_eq_true rfl, Nat.le_of_ble_eq_true rfl⟩, Nat.le_of_ble_eq_true rfl, Nat.le_of_ble_eq_true rfl⟩ ?_
  refine G_name (fun S1_7 hS1_7 => ?_)
  exact G_iret_m (pc := 10) hF dX7_cursor_10 ⟨Nat.le_of_ble_eq_true rfl, Nat.le_of_ble_eq_true rfl⟩ (by first | rfl | omega | simp_all) (by rw [hS1_7])
set_option maxHeartbeats 4000000 in
set_option maxRecDepth 100000 in
theorem c_X7_ofShare_66_x {l : Launch} {Δ : zDl} {ad : zK → Nat} {P : zP} {S : zS} {X : zMem} {Q : zP} {g p : Int} (hV : zWM Q S) (hrg : zR g) (hrp : zR p) (hn : ¬ ((0 ≤ g ∧ g < Q 3 0 0) ∧ (0 ≤ p ∧ p < Q 1 (Q 4 g 0) 0))) : zMn l Δ yX7_ofShare cX7_ofShare 4 (some .int) 5 0 0 [.ref (ad (40, 0, 0, 0)), .int (zI g), .int (zI p), .ref (ad (66, 0, 0, 0))] ad (mm Δ ad P S X) (zD (some (.int (zI 0))) ad (mm Δ ad P (zst S (40, 0, 0, 0) 0 1) X)) := by
  refine zMn_of (by decide) (Nat.le_of_ble_eq_true rfl) (fun Γ hl hΔ hF => ?_)
  subst hl hΔ
  show G Γ _ _ _ RX7 _ _ _ _ _ [(0, .ref (ad (40, 0, 0, 0))), (1, .int (zI g)), (2, .int (zI p)), (3, .ref (ad (66, 0, 0, 0)))] []
  refine G_aload_n (pc := 0) 0 0 dX7_ofShare_0 rfl rfl ?_
  refine G_iconst (pc := 1) dX7_ofShare_1 ?_
  refine G_putf (pc := 2) fl_X7_93 fp_X7_0 dX7_ofShare_2 mg_40 (Nat.le_of_ble_eq_true rfl) rfl rfl (mp_40_0 _) ?_
  refine G_name (fun S1_2 hS1_2 => ?_)
  have hVS1_2 : zWM Q S1_2 := by rw [hS1_2]; exact hV.s40_0 (by first | assumption | exact ⟨by omega, by omega⟩)
  refine G_aload_n (pc := 5) 0 0 dX7_ofShare_5 rfl rfl ?_
  refine G_iload_n (pc := 6) 1 1 dX7_ofShare_6 rfl rfl ?_
  refine G_iload_n (pc := 7) 2 2 dX7_ofShare_7 rfl rfl ?_
  refine G_callVd (pc := 8) gk_X7_220 dX7_ofShare_8 mg_40 rfl (c_X7_isShare (Q := Q) (by first | assumption | omega | exact ⟨by omega, by omega⟩ | exact hS _ _ | exact hT _ _) (by first | assumption | omega | exact ⟨by omega, by omega⟩ | exact hS _ _ | exact hT _ _) (by first | assumption | omega | exact ⟨by omega, by omega⟩ | exact hS _ _ | exact hT _ _)) rfl rfl (Nat.le_of_ble_eq_true rfl) ⟨⟨Nat.le_of_ble_eq_true rfl, Nat.le_of_ble_eq_true rfl⟩, Nat.le_of_ble_eq_true rfl, Nat.le_of_ble_eq_true rfl⟩ ?_
  refine G_if_eq_b (pc := 11) 24 dX7_ofShare_11 (by decide) (fun c11 => ?_) (fun c11 => ?_)
  · refine G_aload_n (pc := 24) 0 0 dX7_ofShare_24 rfl rfl ?_
    refine G_iconst (pc := 25) dX7_ofShare_25 ?_
    refine G_callVd (pc := 26) gk_X7_134 dX7_ofShare_26 mg_40 rfl (c_X7_no (Q := Q) (by first | assumption | omega | exact ⟨by omega, by omega⟩ | exact hS _ _ | exact hT _ _) (by first | assumption | omega | exact ⟨by omega, by omega⟩ | exact hS _ _ | exact hT _ _)) rfl rfl (Nat.le_of_ble_eq_true rfl) ⟨⟨Nat.le_of_ble_eq_true rfl, Nat.le_of_ble_eq_true rfl⟩, Nat.le_of_ble_eq_true rfl, Nat.le_of_ble_eq_true rfl⟩ ?_
    refine G_name (fun S2_26 hS2_26 => ?_)
    have hVS2_26 : zWM Q S2_26 := by rw [hS2_26]; exact hVS1_2.s40_0 (by first | assumption | exact ⟨by omega, by omega⟩)
    exact G_iret_m (pc := 29) hF dX7_ofShare_29 ⟨Nat.le_of_ble_eq_true rfl, Nat.le_of_ble_eq_true rfl⟩ (by first | rfl | omega | simp_all) (by rw [hS2_26, hS1_2, zst_zst])
  · exfalso
    exact hn c11
set_option maxHeartbeats 4000000 in
set_option maxRecDepth 100000 in
theorem c_X7_cursor_x {l : Launch} {Δ : zDl} {ad : zK → Nat} {P : zP} {S : zS} {X : zMem} {Q : zP} {g p : Int} (hV : zWM Q S) (hrg : zR g) (hrp : zR p) (hn : ¬ ((0 ≤ g ∧ g < Q 3 0 0) ∧ (0 ≤ p ∧ p < Q 1 (Q 4 g 0) 0))) : zMn l Δ yX7_cursor cX7_cursor 3 (some .int) 9 0 0 [.ref (ad (40, 0, 0, 0)), .int (zI g), .int (zI p)] ad (mm Δ ad P S X) (zD (some (.int (zI 0))) ad (mm Δ ad P (zst S (40, 0, 0, 0) 0 1) X)) := by
  refine zMn_of (by decide) (Nat.le_of_ble_eq_true rfl) (fun Γ hl hΔ hF => ?_)
  subst hl hΔ
  show G Γ _ _ _ RX7 _ _ _ _ _ [(0, .ref (ad (40, 0, 0, 0))), (1, .int (zI g)), (2, .int (zI p))] []
  have hq := hV.q
  refine G_aload_n (pc := 0) 0 0 dX7_cursor_0 rfl rfl ?_
  refine G_iload_n (pc := 1) 1 1 dX7_cursor_1 rfl rfl ?_
  refine G_iload_n (pc := 2) 2 2 dX7_cursor_2 rfl rfl ?_
  refine G_aload_n (pc := 3) 0 0 dX7_cursor_3 rfl rfl ?_
  refine G_getf (pc := 4) fl_X7_72 dX7_cursor_4 mg_40 rfl ?_
  refine G_callVd (pc := 7) gk_X7_227 dX7_cursor_7 mg_40 rfl (c_X7_ofShare_66_x (Q := Q) (by first | assumption | omega | exact ⟨by omega, by omega⟩ | exact hS _ _ | exact hT _ _) (by first | assumption | omega | exact ⟨by omega, by omega⟩ | exact hS _ _ | exact hT _ _) (by first | assumption | omega | exact ⟨by omega, by omega⟩ | exact hS _ _ | exact hT _ _) (by first | assumption | omega | exact ⟨by omega, by omega⟩ | exact hS _ _ | exact hT _ _)) rfl rfl (Nat.le_of_ble_eq_true rfl) ⟨⟨Nat.le_of_ble_eq_true rfl, Nat.le_of_ble_eq_true rfl⟩, Nat.le_of_ble_eq_true rfl, Nat.le_of_ble_eq_true rfl⟩ ?_
  refine G_name (fun S1_7 hS1_7 => ?_)
  exact G_iret_m (pc := 10) hF dX7_cursor_10 ⟨Nat.le_of_ble_eq_true rfl, Nat.le_of_ble_eq_true rfl⟩ (by first | rfl | omega | simp_all) (by rw [hS1_7])
set_option maxHeartbeats 4000000 in
set_option maxRecDepth 100000 in
theorem c_X7_ofShare_67 {l : Launch} {Δ : zDl} {ad : zK → Nat} {P : zP} {S : zS} {X : zMem} {Q : zP} {g p : Int} (hV : zWM Q S) (hg : 0 ≤ g ∧ g < Q 3 0 0) (hp : 0 ≤ p ∧ p < Q 1 (Q 4 g 0) 0) : zMn l Δ yX7_ofShare cX7_ofShare 4 (some .int) 5 0 0 [.ref (ad (40, 0, 0, 0)), .int (zI g), .int (zI p), .ref (ad (67, 0, 0, 0))] ad (mm Δ ad P S X) (zD (some (.int (zI ((zst S (40, 0, 0, 0) 0 0) (67, 0, 0, 0) (g * 4 + p))))) ad (mm Δ ad P (zst S (40, 0, 0, 0) 0 0) X)) := by
  refine zMn_of (by decide) (Nat.le_of_ble_eq_true rfl) (fun Γ hl hΔ hF => ?_)
  subst hl hΔ
  show G Γ _ _ _ RX7 _ _ _ _ _ [(0, .ref (ad (40, 0, 0, 0))), (1, .int (zI g)), (2, .int (zI p)), (3, .ref (ad (67, 0, 0, 0)))] []
  have hq := hV.q
  have hqg := hV.qg hg
  have hqt := hV.qt hqg
  have hgt := hV.gt hg
  have hgn := hV.gn hg
  have hqm := hV.qm hqg hp
  have hen := hV.en hqg hp
  refine G_aload_n (pc := 0) 0 0 dX7_ofShare_0 rfl rfl ?_
  refine G_iconst (pc := 1) dX7_ofShare_1 ?_
  refine G_putf (pc := 2) fl_X7_93 fp_X7_0 dX7_ofShare_2 mg_40 (Nat.le_of_ble_eq_true rfl) rfl rfl (mp_40_0 _) ?_
  refine G_name (fun S1_2 hS1_2 => ?_)
  have hVS1_2 : zWM Q S1_2 := by rw [hS1_2]; exact hV.s40_0 (by first | assumption | exact ⟨by omega, by omega⟩)
  refine G_aload_n (pc := 5) 0 0 dX7_ofShare_5 rfl rfl ?_
  refine G_iload_n (pc := 6) 1 1 dX7_ofShare_6 rfl rfl ?_
  refine G_iload_n (pc := 7) 2 2 dX7_ofShare_7 rfl rfl ?_
  refine G_callVd (pc := 8) gk_X7_220 dX7_ofShare_8 mg_40 rfl (c_X7_isShare (Q := Q) (by first | assumption | omega | exact ⟨by omega, by omega⟩ | exact hS _ _ | exact hT _ _) (by first | assumption | omega | exact ⟨by omega, by omega⟩ | exact hS _ _ | exact hT _ _) (by first | assumption | omega | exact ⟨by omega, by omega⟩ | exact hS _ _ | exact hT _ _)) rfl rfl (Nat.le_of_ble_eq_true rfl) ⟨⟨Nat.le_of_ble_eq_true rfl, Nat.le_of_ble_eq_true rfl⟩, Nat.le_of_ble_eq_true rfl, Nat.le_of_ble_eq_true rfl⟩ ?_
  refine G_if_eq_b (pc := 11) 24 dX7_ofShare_11 (by decide) (fun c11 => ?_) (fun c11 => ?_)
  · exfalso
    exact c11 ⟨hg, hp⟩
  · refine G_aload_n (pc := 14) 3 3 dX7_ofShare_14 rfl rfl ?_
    refine G_iload_n (pc := 15) 1 1 dX7_ofShare_15 rfl rfl ?_
    refine G_iconst (pc := 16) dX7_ofShare_16 ?_
    refine G_imul (pc := 17) dX7_ofShare_17 ?_
    refine G_iload_n (pc := 18) 2 2 dX7_ofShare_18 rfl rfl ?_
    refine G_iadd (pc := 19) dX7_ofShare_19 ?_
    refine G_iald (pc := 20) dX7_ofShare_20 mg_67 ⟨by omega, by omega, by omega, by omega⟩ ?_
    have hb20 := hVS1_2.b67 ((g * 4) + p)
    refine G_goto (pc := 21) 29 dX7_ofShare_21 (by decide) ?_
    exact G_iret_m (pc := 29) hF dX7_ofShare_29 ⟨Nat.le_of_ble_eq_true rfl, Nat.le_of_ble_eq_true rfl⟩ (by rw [hS1_2]) (by rw [hS1_2])
set_option maxHeartbeats 4000000 in
set_option maxRecDepth 100000 in
theorem c_X7_reader {l : Launch} {Δ : zDl} {ad : zK → Nat} {P : zP} {S : zS} {X : zMem} {Q : zP} {g p : Int} (hV : zWM Q S) (hg : 0 ≤ g ∧ g < Q 3 0 0) (hp : 0 ≤ p ∧ p < Q 1 (Q 4 g 0) 0) : zMn l Δ yX7_reader cX7_reader 3 (some .int) 9 0 0 [.ref (ad (40, 0, 0, 0)), .int (zI g), .int (zI p)] ad (mm Δ ad P S X) (zD (some (.int (zI ((zst S (40, 0, 0, 0) 0 0) (67, 0, 0, 0) (g * 4 + p))))) ad (mm Δ ad P (zst S (40, 0, 0, 0) 0 0) X)) := by
  refine zMn_of (by decide) (Nat.le_of_ble_eq_true rfl) (fun Γ hl hΔ hF => ?_)
  subst hl hΔ
  show G Γ _ _ _ RX7 _ _ _ _ _ [(0, .ref (ad (40, 0, 0, 0))), (1, .int (zI g)), (2, .int (zI p))] []
  have hq := hV.q
  refine G_aload_n (pc := 0) 0 0 dX7_reader_0 rfl rfl ?_
  refine G_iload_n (pc := 1) 1 1 dX7_reader_1 rfl rfl ?_
  refine G_iload_n (pc := 2) 2 2 dX7_reader_2 rfl rfl ?_
  refine G_aload_n (pc := 3) 0 0 dX7_reader_3 rfl rfl ?_
  refine G_getf (pc := 4) fl_X7_75 dX7_reader_4 mg_40 rfl ?_
  refine G_callVd (pc := 7) gk_X7_227 dX7_reader_7 mg_40 rfl (c_X7_ofShare_67 (Q := Q) (by first | assumption | omega | exact ⟨by omega, by omega⟩ | exact hS _ _ | exact hT _ _) (by first | assumption | omega | exact ⟨by omega, by omega⟩ | exact hS _ _ | exact hT _ _) (by first | assumption | omega | exact ⟨by omega, by omega⟩ | exact hS _ _ | exact hT _ _)) rfl rfl (Nat.le_of_ble_eq_true rfl) ⟨⟨Nat.le_of_ble_eq_true rfl, Nat.le_of_ble_eq_true rfl⟩, Nat.le_of_ble_eq_true rfl, Nat.le_of_ble_eq_true rfl⟩ ?_
  refine G_name (fun S1_7 hS1_7 => ?_)
  exact G_iret_m (pc := 10) hF dX7_reader_10 ⟨Nat.le_of_ble_eq_true rfl, Nat.le_of_ble_eq_true rfl⟩ (by first | rfl | omega | simp_all) (by rw [hS1_7])
set_option maxHeartbeats 4000000 in
set_option maxRecDepth 100000 in
theorem c_X7_ofShare_67_x {l : Launch} {Δ : zDl} {ad : zK → Nat} {P : zP} {S : zS} {X : zMem} {Q : zP} {g p : Int} (hV : zWM Q S) (hrg : zR g) (hrp : zR p) (hn : ¬ ((0 ≤ g ∧ g < Q 3 0 0) ∧ (0 ≤ p ∧ p < Q 1 (Q 4 g 0) 0))) : zMn l Δ yX7_ofShare cX7_ofShare 4 (some .int) 5 0 0 [.ref (ad (40, 0, 0, 0)), .int (zI g), .int (zI p), .ref (ad (67, 0, 0, 0))] ad (mm Δ ad P S X) (zD (some (.int (zI 0))) ad (mm Δ ad P (zst S (40, 0, 0, 0) 0 1) X)) := by
  refine zMn_of (by decide) (Nat.le_of_ble_eq_true rfl) (fun Γ hl hΔ hF => ?_)
  subst hl hΔ
  show G Γ _ _ _ RX7 _ _ _ _ _ [(0, .ref (ad (40, 0, 0, 0))), (1, .int (zI g)), (2, .int (zI p)), (3, .ref (ad (67, 0, 0, 0)))] []
  refine G_aload_n (pc := 0) 0 0 dX7_ofShare_0 rfl rfl ?_
  refine G_iconst (pc := 1) dX7_ofShare_1 ?_
  refine G_putf (pc := 2) fl_X7_93 fp_X7_0 dX7_ofShare_2 mg_40 (Nat.le_of_ble_eq_true rfl) rfl rfl (mp_40_0 _) ?_
  refine G_name (fun S1_2 hS1_2 => ?_)
  have hVS1_2 : zWM Q S1_2 := by rw [hS1_2]; exact hV.s40_0 (by first | assumption | exact ⟨by omega, by omega⟩)
  refine G_aload_n (pc := 5) 0 0 dX7_ofShare_5 rfl rfl ?_
  refine G_iload_n (pc := 6) 1 1 dX7_ofShare_6 rfl rfl ?_
  refine G_iload_n (pc := 7) 2 2 dX7_ofShare_7 rfl rfl ?_
  refine G_callVd (pc := 8) gk_X7_220 dX7_ofShare_8 mg_40 rfl (c_X7_isShare (Q := Q) (by first | assumption | omega | exact ⟨by omega, by omega⟩ | exact hS _ _ | exact hT _ _) (by first | assumption | omega | exact ⟨by omega, by omega⟩ | exact hS _ _ | exact hT _ _) (by first | assumption | omega | exact ⟨by omega, by omega⟩ | exact hS _ _ | exact hT _ _)) rfl rfl (Nat.le_of_ble_eq_true rfl) ⟨⟨Nat.le_of_ble_eq_true rfl, Nat.le_of_ble_eq_true rfl⟩, Nat.le_of_ble_eq_true rfl, Nat.le_of_ble_eq_true rfl⟩ ?_
  refine G_if_eq_b (pc := 11) 24 dX7_ofShare_11 (by decide) (fun c11 => ?_) (fun c11 => ?_)
  · refine G_aload_n (pc := 24) 0 0 dX7_ofShare_24 rfl rfl ?_
    refine G_iconst (pc := 25) dX7_ofShare_25 ?_
    refine G_callVd (pc := 26) gk_X7_134 dX7_ofShare_26 mg_40 rfl (c_X7_no (Q := Q) (by first | assumption | omega | exact ⟨by omega, by omega⟩ | exact hS _ _ | exact hT _ _) (by first | assumption | omega | exact ⟨by omega, by omega⟩ | exact hS _ _ | exact hT _ _)) rfl rfl (Nat.le_of_ble_eq_true rfl) ⟨⟨Nat.le_of_ble_eq_true rfl, Nat.le_of_ble_eq_true rfl⟩, Nat.le_of_ble_eq_true rfl, Nat.le_of_ble_eq_true rfl⟩ ?_
    refine G_name (fun S2_26 hS2_26 => ?_)
    have hVS2_26 : zWM Q S2_26 := by rw [hS2_26]; exact hVS1_2.s40_0 (by first | assumption | exact ⟨by omega, by omega⟩)
    exact G_iret_m (pc := 29) hF dX7_ofShare_29 ⟨Nat.le_of_ble_eq_true rfl, Nat.le_of_ble_eq_true rfl⟩ (by first | rfl | omega | simp_all) (by rw [hS2_26, hS1_2, zst_zst])
  · exfalso
    exact hn c11
set_option maxHeartbeats 4000000 in
set_option maxRecDepth 100000 in
theorem c_X7_reader_x {l : Launch} {Δ : zDl} {ad : zK → Nat} {P : zP} {S : zS} {X : zMem} {Q : zP} {g p : Int} (hV : zWM Q S) (hrg : zR g) (hrp : zR p) (hn : ¬ ((0 ≤ g ∧ g < Q 3 0 0) ∧ (0 ≤ p ∧ p < Q 1 (Q 4 g 0) 0))) : zMn l Δ yX7_reader cX7_reader 3 (some .int) 9 0 0 [.ref (ad (40, 0, 0, 0)), .int (zI g), .int (zI p)] ad (mm Δ ad P S X) (zD (some (.int (zI 0))) ad (mm Δ ad P (zst S (40, 0, 0, 0) 0 1) X)) := by
  refine zMn_of (by decide) (Nat.le_of_ble_eq_true rfl) (fun Γ hl hΔ hF => ?_)
  subst hl hΔ
  show G Γ _ _ _ RX7 _ _ _ _ _ [(0, .ref (ad (40, 0, 0, 0))), (1, .int (zI g)), (2, .int (zI p))] []
  have hq := hV.q
  refine G_aload_n (pc := 0) 0 0 dX7_reader_0 rfl rfl ?_
  refine G_iload_n (pc := 1) 1 1 dX7_reader_1 rfl rfl ?_
  refine G_iload_n (pc := 2) 2 2 dX7_reader_2 rfl rfl ?_
  refine G_aload_n (pc := 3) 0 0 dX7_reader_3 rfl rfl ?_
  refine G_getf (pc := 4) fl_X7_75 dX7_reader_4 mg_40 rfl ?_
  refine G_callVd (pc := 7) gk_X7_227 dX7_reader_7 mg_40 rfl (c_X7_ofShare_67_x (Q := Q) (by first | assumption | omega | exact ⟨by omega, by omega⟩ | exact hS _ _ | exact hT _ _) (by first | assumption | omega | exact ⟨by omega, by omega⟩ | exact hS _ _ | exact hT _ _) (by first | assumption | omega | exact ⟨by omega, by omega⟩ | exact hS _ _ | exact hT _ _) (by first | assumption | omega | exact ⟨by omega, by omega⟩ | exact hS _ _ | exact hT _ _)) rfl rfl (Nat.le_of_ble_eq_true rfl) ⟨⟨Nat.le_of_ble_eq_true rfl, Nat.le_of_ble_eq_true rfl⟩, Nat.le_of_ble_eq_true rfl, Nat.le_of_ble_eq_true rfl⟩ ?_
  refine G_name (fun S1_7 hS1_7 => ?_)
  exact G_iret_m (pc := 10) hF dX7_reader_10 ⟨Nat.le_of_ble_eq_true rfl, Nat.le_of_ble_eq_true rfl⟩ (by first | rfl | omega | simp_all) (by rw [hS1_7])
set_option maxHeartbeats 4000000 in
set_option maxRecDepth 100000 in
theorem c_X7_ofGiven_69 {l : Launch} {Δ : zDl} {ad : zK → Nat} {P : zP} {S : zS} {X : zMem} {Q : zP} {g p o : Int} (hV : zWM Q S) (hg : 0 ≤ g ∧ g < Q 3 0 0) (hp : 0 ≤ p ∧ p < Q 1 (Q 4 g 0) 0) (ho : 0 ≤ o ∧ o < Q 2 (Q 4 g 0) p) : zMn l Δ yX7_ofGiven cX7_ofGiven 5 (some .int) 5 0 0 [.ref (ad (40, 0, 0, 0)), .int (zI g), .int (zI p), .int (zI o), .ref (ad (69, 0, 0, 0))] ad (mm Δ ad P S X) (zD (some (.int (zI ((zst S (40, 0, 0, 0) 0 0) (69, 0, 0, 0) (g * 80 + (zst S (40, 0, 0, 0) 0 0) (59, 0, 0, 0) ((Q 4 g 0 * 4 + p) * 80 + o)))))) ad (mm Δ ad P (zst S (40, 0, 0, 0) 0 0) X)) := by
  refine zMn_of (by decide) (Nat.le_of_ble_eq_true rfl) (fun Γ hl hΔ hF => ?_)
  subst hl hΔ
  show G Γ _ _ _ RX7 _ _ _ _ _ [(0, .ref (ad (40, 0, 0, 0))), (1, .int (zI g)), (2, .int (zI p)), (3, .int (zI o)), (4, .ref (ad (69, 0, 0, 0)))] []
  have hq := hV.q
  have hqg := hV.qg hg
  have hqt := hV.qt hqg
  have hgt := hV.gt hg
  have hgn := hV.gn hg
  have hqm := hV.qm hqg hp
  have hen := hV.en hqg hp
  refine G_aload_n (pc := 0) 0 0 dX7_ofGiven_0 rfl rfl ?_
  refine G_iconst (pc := 1) dX7_ofGiven_1 ?_
  refine G_putf (pc := 2) fl_X7_93 fp_X7_0 dX7_ofGiven_2 mg_40 (Nat.le_of_ble_eq_true rfl) rfl rfl (mp_40_0 _) ?_
  refine G_name (fun S1_2 hS1_2 => ?_)
  have hVS1_2 : zWM Q S1_2 := by rw [hS1_2]; exact hV.s40_0 (by first | assumption | exact ⟨by omega, by omega⟩)
  have hen5 := hVS1_2.en hqg hp
  refine G_aload_n (pc := 5) 0 0 dX7_ofGiven_5 rfl rfl ?_
  refine G_iload_n (pc := 6) 1 1 dX7_ofGiven_6 rfl rfl ?_
  refine G_iload_n (pc := 7) 2 2 dX7_ofGiven_7 rfl rfl ?_
  refine G_callVd (pc := 8) gk_X7_220 dX7_ofGiven_8 mg_40 rfl (c_X7_isShare (Q := Q) (by first | assumption | omega | exact ⟨by omega, by omega⟩ | exact hS _ _ | exact hT _ _) (by first | assumption | omega | exact ⟨by omega, by omega⟩ | exact hS _ _ | exact hT _ _) (by first | assumption | omega | exact ⟨by omega, by omega⟩ | exact hS _ _ | exact hT _ _)) rfl rfl (Nat.le_of_ble_eq_true rfl) ⟨⟨Nat.le_of_ble_eq_true rfl, Nat.le_of_ble_eq_true rfl⟩, Nat.le_of_ble_eq_true rfl, Nat.le_of_ble_eq_true rfl⟩ ?_
  refine G_if_eq_b (pc := 11) 35 dX7_ofGiven_11 (by decide) (fun c11 => ?_) (fun c11 => ?_)
  · exfalso
    first | exact c11 ⟨hg, hp⟩ | omega
  · refine G_iload_n (pc := 14) 3 3 dX7_ofGiven_14 rfl rfl ?_
    refine G_iconst (pc := 15) dX7_ofGiven_15 ?_
    refine G_aload_n (pc := 16) 0 0 dX7_ofGiven_16 rfl rfl ?_
    refine G_getf (pc := 17) fl_X7_26 dX7_ofGiven_17 mg_40 rfl ?_
    refine G_aload_n (pc := 20) 0 0 dX7_ofGiven_20 rfl rfl ?_
    refine G_iload_n (pc := 21) 1 1 dX7_ofGiven_21 rfl rfl ?_
    refine G_iload_n (pc := 22) 2 2 dX7_ofGiven_22 rfl rfl ?_
    refine G_callVd (pc := 23) gk_X7_201 dX7_ofGiven_23 mg_40 rfl (c_X7_whereOf (Q := Q) (by first | assumption | omega | exact ⟨by omega, by omega⟩ | exact hS _ _ | exact hT _ _) (by first | assumption | omega | exact ⟨by omega, by omega⟩ | exact hS _ _ | exact hT _ _)) rfl rfl (Nat.le_of_ble_eq_true rfl) ⟨⟨Nat.le_of_ble_eq_true rfl, Nat.le_of_ble_eq_true rfl⟩, Nat.le_of_ble_eq_true rfl, Nat.le_of_ble_eq_true rfl⟩ ?_
    refine G_iald (pc := 26) dX7_ofGiven_26 mg_48 ⟨by omega, by omega, by omega, by omega⟩ ?_
    have hb26 := hVS1_2.b48 (Q 4 g 0 * 4 + p)
    refine G_iconst (pc := 27) dX7_ofGiven_27 ?_
    refine G_isub (pc := 28) dX7_ofGiven_28 ?_
    refine G_callSd (pc := 29) gk_X7_99 dX7_ofGiven_29 (c_X7_isWithin (by first | assumption | omega | exact ⟨by omega, by omega⟩ | exact hS _ _ | exact hT _ _) (by first | assumption | omega | exact ⟨by omega, by omega⟩ | exact hS _ _ | exact hT _ _) (by first | assumption | omega | exact ⟨by omega, by omega⟩ | exact hS _ _ | exact hT _ _)) rfl rfl (Nat.le_of_ble_eq_true rfl) ⟨⟨Nat.le_of_ble_eq_true rfl, Nat.le_of_ble_eq_true rfl⟩, Nat.le_of_ble_eq_true rfl, Nat.le_of_ble_eq_true rfl⟩ ?_
    refine G_if_ne_b (pc := 32) 41 dX7_ofGiven_32 (by decide) (fun c32 => ?_) (fun c32 => ?_)
    · refine G_aload (pc := 41) 4 dX7_ofGiven_41 rfl ?_
      refine G_iload_n (pc := 43) 1 1 dX7_ofGiven_43 rfl rfl ?_
      refine G_bipush (pc := 44) dX7_ofGiven_44 (by decide) ?_
      refine G_imul (pc := 46) dX7_ofGiven_46 ?_
      refine G_aload_n (pc := 47) 0 0 dX7_ofGiven_47 rfl rfl ?_
      refine G_aload_n (pc := 48) 0 0 dX7_ofGiven_48 rfl rfl ?_
      refine G_iload_n (pc := 49) 1 1 dX7_ofGiven_49 rfl rfl ?_
      refine G_iload_n (pc := 50) 2 2 dX7_ofGiven_50 rfl rfl ?_
      refine G_callVd (pc := 51) gk_X7_201 dX7_ofGiven_51 mg_40 rfl (c_X7_whereOf (Q := Q) (by first | assumption | omega | exact ⟨by omega, by omega⟩ | exact hS _ _ | exact hT _ _) (by first | assumption | omega | exact ⟨by omega, by omega⟩ | exact hS _ _ | exact hT _ _)) rfl rfl (Nat.le_of_ble_eq_true rfl) ⟨⟨Nat.le_of_ble_eq_true rfl, Nat.le_of_ble_eq_true rfl⟩, Nat.le_of_ble_eq_true rfl, Nat.le_of_ble_eq_true rfl⟩ ?_
      refine G_iload_n (pc := 54) 3 3 dX7_ofGiven_54 rfl rfl ?_
      refine G_callVd (pc := 55) gk_X7_113 dX7_ofGiven_55 mg_40 rfl (c_X7_messageAt (Q := Q) (by first | assumption | omega | exact ⟨by omega, by omega⟩ | exact hS _ _ | exact hT _ _) (by first | assumption | omega | exact ⟨by omega, by omega⟩ | exact hS _ _ | exact hT _ _) (by first | assumption | omega | exact ⟨by omega, by omega⟩ | exact hS _ _ | exact hT _ _)) rfl rfl (Nat.le_of_ble_eq_true rfl) ⟨⟨Nat.le_of_ble_eq_true rfl, Nat.le_of_ble_eq_true rfl⟩, Nat.le_of_ble_eq_true rfl, Nat.le_of_ble_eq_true rfl⟩ ?_
      have hb55 := hVS1_2.b59 ((Q 4 g 0 * 4 + p) * 80 + o)
      refine G_iadd (pc := 58) dX7_ofGiven_58 ?_
      refine G_iald (pc := 59) dX7_ofGiven_59 mg_69 ⟨by omega, by omega, by omega, by omega⟩ ?_
      have hb59 := hVS1_2.b69 ((g * 80) + (S1_2 (59, 0, 0, 0) ((Q 4 g 0 * 4 + p) * 80 + o)))
      exact G_iret_m (pc := 60) hF dX7_ofGiven_60 ⟨Nat.le_of_ble_eq_true rfl, Nat.le_of_ble_eq_true rfl⟩ (by rw [hS1_2]) (by rw [hS1_2])
    · exfalso
      first | exact c11 ⟨hg, hp⟩ | omega
set_option maxHeartbeats 4000000 in
set_option maxRecDepth 100000 in
theorem c_X7_state {l : Launch} {Δ : zDl} {ad : zK → Nat} {P : zP} {S : zS} {X : zMem} {Q : zP} {g p o : Int} (hV : zWM Q S) (hg : 0 ≤ g ∧ g < Q 3 0 0) (hp : 0 ≤ p ∧ p < Q 1 (Q 4 g 0) 0) (ho : 0 ≤ o ∧ o < Q 2 (Q 4 g 0) p) : zMn l Δ yX7_state cX7_state 4 (some .int) 9 0 0 [.ref (ad (40, 0, 0, 0)), .int (zI g), .int (zI p), .int (zI o)] ad (mm Δ ad P S X) (zD (some (.int (zI ((zst S (40, 0, 0, 0) 0 0) (69, 0, 0, 0) (g * 80 + (zst S (40, 0, 0, 0) 0 0) (59, 0, 0, 0) ((Q 4 g 0 * 4 + p) * 80 + o)))))) ad (mm Δ ad P (zst S (40, 0, 0, 0) 0 0) X)) := by
  refine zMn_of (by decide) (Nat.le_of_ble_eq_true rfl) (fun Γ hl hΔ hF => ?_)
  subst hl hΔ
  show G Γ _ _ _ RX7 _ _ _ _ _ [(0, .ref (ad (40, 0, 0, 0))), (1, .int (zI g)), (2, .int (zI p)), (3, .int (zI o))] []
  have hq := hV.q
  refine G_aload_n (pc := 0) 0 0 dX7_state_0 rfl rfl ?_
  refine G_iload_n (pc := 1) 1 1 dX7_state_1 rfl rfl ?_
  refine G_iload_n (pc := 2) 2 2 dX7_state_2 rfl rfl ?_
  refine G_iload_n (pc := 3) 3 3 dX7_state_3 rfl rfl ?_
  refine G_aload_n (pc := 4) 0 0 dX7_state_4 rfl rfl ?_
  refine G_getf (pc := 5) fl_X7_81 dX7_state_5 mg_40 rfl ?_
  refine G_callVd (pc := 8) gk_X7_230 dX7_state_8 mg_40 rfl (c_X7_ofGiven_69 (Q := Q) (by first | assumption | omega | exact ⟨by omega, by omega⟩ | exact hS _ _ | exact hT _ _) (by first | assumption | omega | exact ⟨by omega, by omega⟩ | exact hS _ _ | exact hT _ _) (by first | assumption | omega | exact ⟨by omega, by omega⟩ | exact hS _ _ | exact hT _ _) (by first | assumption | omega | exact ⟨by omega, by omega⟩ | exact hS _ _ | exact hT _ _)) rfl rfl (Nat.le_of_ble_eq_true rfl) ⟨⟨Nat.le_of_ble_eq_true rfl, Nat.le_of_ble_eq_true rfl⟩, Nat.le_of_ble_eq_true rfl, Nat.le_of_ble_eq_true rfl⟩ ?_
  refine G_name (fun S1_8 hS1_8 => ?_)
  exact G_iret_m (pc := 11) hF dX7_state_11 ⟨Nat.le_of_ble_eq_true rfl, Nat.le_of_ble_eq_true rfl⟩ (by first | rfl | omega | simp_all) (by rw [hS1_8])
set_option maxHeartbeats 4000000 in
set_option maxRecDepth 100000 in
theorem c_X7_ofGiven_69_x {l : Launch} {Δ : zDl} {ad : zK → Nat} {P : zP} {S : zS} {X : zMem} {Q : zP} {g p o : Int} (hV : zWM Q S) (hrg : zR g) (hrp : zR p) (hro : zR o) (hn : ¬ (((0 ≤ g ∧ g < Q 3 0 0) ∧ (0 ≤ p ∧ p < Q 1 (Q 4 g 0) 0)) ∧ (0 ≤ o ∧ o < Q 2 (Q 4 g 0) p))) : zMn l Δ yX7_ofGiven cX7_ofGiven 5 (some .int) 5 0 0 [.ref (ad (40, 0, 0, 0)), .int (zI g), .int (zI p), .int (zI o), .ref (ad (69, 0, 0, 0))] ad (mm Δ ad P S X) (zD (some (.int (zI 0))) ad (mm Δ ad P (zst S (40, 0, 0, 0) 0 1) X)) := by
  refine zMn_of (by decide) (Nat.le_of_ble_eq_true rfl) (fun Γ hl hΔ hF => ?_)
  subst hl hΔ
  show G Γ _ _ _ RX7 _ _ _ _ _ [(0, .ref (ad (40, 0, 0, 0))), (1, .int (zI g)), (2, .int (zI p)), (3, .int (zI o)), (4, .ref (ad (69, 0, 0, 0)))] []
  have hq := hV.q
  refine G_aload_n (pc := 0) 0 0 dX7_ofGiven_0 rfl rfl ?_
  refine G_iconst (pc := 1) dX7_ofGiven_1 ?_
  refine G_putf (pc := 2) fl_X7_93 fp_X7_0 dX7_ofGiven_2 mg_40 (Nat.le_of_ble_eq_true rfl) rfl rfl (mp_40_0 _) ?_
  refine G_name (fun S1_2 hS1_2 => ?_)
  have hVS1_2 : zWM Q S1_2 := by rw [hS1_2]; exact hV.s40_0 (by first | assumption | exact ⟨by omega, by omega⟩)
  refine G_aload_n (pc := 5) 0 0 dX7_ofGiven_5 rfl rfl ?_
  refine G_iload_n (pc := 6) 1 1 dX7_ofGiven_6 rfl rfl ?_
  refine G_iload_n (pc := 7) 2 2 dX7_ofGiven_7 rfl rfl ?_
  refine G_callVd (pc := 8) gk_X7_220 dX7_ofGiven_8 mg_40 rfl (c_X7_isShare (Q := Q) (by first | assumption | omega | exact ⟨by omega, by omega⟩ | exact hS _ _ | exact hT _ _) (by first | assumption | omega | exact ⟨by omega, by omega⟩ | exact hS _ _ | exact hT _ _) (by first | assumption | omega | exact ⟨by omega, by omega⟩ | exact hS _ _ | exact hT _ _)) rfl rfl (Nat.le_of_ble_eq_true rfl) ⟨⟨Nat.le_of_ble_eq_true rfl, Nat.le_of_ble_eq_true rfl⟩, Nat.le_of_ble_eq_true rfl, Nat.le_of_ble_eq_true rfl⟩ ?_
  refine G_if_eq_b (pc := 11) 35 dX7_ofGiven_11 (by decide) (fun c11 => ?_) (fun c11 => ?_)
  · refine G_aload_n (pc := 35) 0 0 dX7_ofGiven_35 rfl rfl ?_
    refine G_iconst (pc := 36) dX7_ofGiven_36 ?_
    refine G_callVd (pc := 37) gk_X7_134 dX7_ofGiven_37 mg_40 rfl (c_X7_no (Q := Q) (by first | assumption | omega | exact ⟨by omega, by omega⟩ | exact hS _ _ | exact hT _ _) (by first | assumption | omega | exact ⟨by omega, by omega⟩ | exact hS _ _ | exact hT _ _)) rfl rfl (Nat.le_of_ble_eq_true rfl) ⟨⟨Nat.le_of_ble_eq_true rfl, Nat.le_of_ble_eq_true rfl⟩, Nat.le_of_ble_eq_true rfl, Nat.le_of_ble_eq_true rfl⟩ ?_
    refine G_name (fun S2_37 hS2_37 => ?_)
    have hVS2_37 : zWM Q S2_37 := by rw [hS2_37]; exact hVS1_2.s40_0 (by first | assumption | exact ⟨by omega, by omega⟩)
    exact G_iret_m (pc := 40) hF dX7_ofGiven_40 ⟨Nat.le_of_ble_eq_true rfl, Nat.le_of_ble_eq_true rfl⟩ (by first | rfl | omega | simp_all) (by rw [hS2_37, hS1_2, zst_zst])
  · have hg := c11.1
    have hp := c11.2
    have hqg := hV.qg hg
    have hqt := hV.qt hqg
    have hgt := hV.gt hg
    have hgn := hV.gn hg
    have hqm := hV.qm hqg hp
    have hen := hV.en hqg hp
    have hen5 := hVS1_2.en hqg hp
    refine G_iload_n (pc := 14) 3 3 dX7_ofGiven_14 rfl rfl ?_
    refine G_iconst (pc := 15) dX7_ofGiven_15 ?_
    refine G_aload_n (pc := 16) 0 0 dX7_ofGiven_16 rfl rfl ?_
    refine G_getf (pc := 17) fl_X7_26 dX7_ofGiven_17 mg_40 rfl ?_
    refine G_aload_n (pc := 20) 0 0 dX7_ofGiven_20 rfl rfl ?_
    refine G_iload_n (pc := 21) 1 1 dX7_ofGiven_21 rfl rfl ?_
    refine G_iload_n (pc := 22) 2 2 dX7_ofGiven_22 rfl rfl ?_
    refine G_callVd (pc := 23) gk_X7_201 dX7_ofGiven_23 mg_40 rfl (c_X7_whereOf (Q := Q) (by first | assumption | omega | exact ⟨by omega, by omega⟩ | exact hS _ _ | exact hT _ _) (by first | assumption | omega | exact ⟨by omega, by omega⟩ | exact hS _ _ | exact hT _ _)) rfl rfl (Nat.le_of_ble_eq_true rfl) ⟨⟨Nat.le_of_ble_eq_true rfl, Nat.le_of_ble_eq_true rfl⟩, Nat.le_of_ble_eq_true rfl, Nat.le_of_ble_eq_true rfl⟩ ?_
    refine G_iald (pc := 26) dX7_ofGiven_26 mg_48 ⟨by omega, by omega, by omega, by omega⟩ ?_
    have hb26 := hVS1_2.b48 (Q 4 g 0 * 4 + p)
    refine G_iconst (pc := 27) dX7_ofGiven_27 ?_
    refine G_isub (pc := 28) dX7_ofGiven_28 ?_
    refine G_callSd (pc := 29) gk_X7_99 dX7_ofGiven_29 (c_X7_isWithin (by first | assumption | omega | exact ⟨by omega, by omega⟩ | exact hS _ _ | exact hT _ _) (by first | assumption | omega | exact ⟨by omega, by omega⟩ | exact hS _ _ | exact hT _ _) (by first | assumption | omega | exact ⟨by omega, by omega⟩ | exact hS _ _ | exact hT _ _)) rfl rfl (Nat.le_of_ble_eq_true rfl) ⟨⟨Nat.le_of_ble_eq_true rfl, Nat.le_of_ble_eq_true rfl⟩, Nat.le_of_ble_eq_true rfl, Nat.le_of_ble_eq_true rfl⟩ ?_
    refine G_if_ne_b (pc := 32) 41 dX7_ofGiven_32 (by decide) (fun c32 => ?_) (fun c32 => ?_)
    · exfalso
      exact hn ⟨c11, by omega⟩
    · refine G_aload_n (pc := 35) 0 0 dX7_ofGiven_35 rfl rfl ?_
      refine G_iconst (pc := 36) dX7_ofGiven_36 ?_
      refine G_callVd (pc := 37) gk_X7_134 dX7_ofGiven_37 mg_40 rfl (c_X7_no (Q := Q) (by first | assumption | omega | exact ⟨by omega, by omega⟩ | exact hS _ _ | exact hT _ _) (by first | assumption | omega | exact ⟨by omega, by omega⟩ | exact hS _ _ | exact hT _ _)) rfl rfl (Nat.le_of_ble_eq_true rfl) ⟨⟨Nat.le_of_ble_eq_true rfl, Nat.le_of_ble_eq_true rfl⟩, Nat.le_of_ble_eq_true rfl, Nat.le_of_ble_eq_true rfl⟩ ?_
      refine G_name (fun S3_37 hS3_37 => ?_)
      have hVS3_37 : zWM Q S3_37 := by rw [hS3_37]; exact hVS1_2.s40_0 (by first | assumption | exact ⟨by omega, by omega⟩)
      exact G_iret_m (pc := 40) hF dX7_ofGiven_40 ⟨Nat.le_of_ble_eq_true rfl, Nat.le_of_ble_eq_true rfl⟩ (by first | rfl | omega | simp_all) (by rw [hS3_37, hS1_2, zst_zst])
set_option maxHeartbeats 4000000 in
set_option maxRecDepth 100000 in
theorem c_X7_state_x {l : Launch} {Δ : zDl} {ad : zK → Nat} {P : zP} {S : zS} {X : zMem} {Q : zP} {g p o : Int} (hV : zWM Q S) (hrg : zR g) (hrp : zR p) (hro : zR o) (hn : ¬ (((0 ≤ g ∧ g < Q 3 0 0) ∧ (0 ≤ p ∧ p < Q 1 (Q 4 g 0) 0)) ∧ (0 ≤ o ∧ o < Q 2 (Q 4 g 0) p))) : zMn l Δ yX7_state cX7_state 4 (some .int) 9 0 0 [.ref (ad (40, 0, 0, 0)), .int (zI g), .int (zI p), .int (zI o)] ad (mm Δ ad P S X) (zD (some (.int (zI 0))) ad (mm Δ ad P (zst S (40, 0, 0, 0) 0 1) X)) := by
  refine zMn_of (by decide) (Nat.le_of_ble_eq_true rfl) (fun Γ hl hΔ hF => ?_)
  subst hl hΔ
  show G Γ _ _ _ RX7 _ _ _ _ _ [(0, .ref (ad (40, 0, 0, 0))), (1, .int (zI g)), (2, .int (zI p)), (3, .int (zI o))] []
  have hq := hV.q
  refine G_aload_n (pc := 0) 0 0 dX7_state_0 rfl rfl ?_
  refine G_iload_n (pc := 1) 1 1 dX7_state_1 rfl rfl ?_
  refine G_iload_n (pc := 2) 2 2 dX7_state_2 rfl rfl ?_
  refine G_iload_n (pc := 3) 3 3 dX7_state_3 rfl rfl ?_
  refine G_aload_n (pc := 4) 0 0 dX7_state_4 rfl rfl ?_
  refine G_getf (pc := 5) fl_X7_81 dX7_state_5 mg_40 rfl ?_
  refine G_callVd (pc := 8) gk_X7_230 dX7_state_8 mg_40 rfl (c_X7_ofGiven_69_x (Q := Q) (by first | assumption | omega | exact ⟨by omega, by omega⟩ | exact hS _ _ | exact hT _ _) (by first | assumption | omega | exact ⟨by omega, by omega⟩ | exact hS _ _ | exact hT _ _) (by first | assumption | omega | exact ⟨by omega, by omega⟩ | exact hS _ _ | exact hT _ _) (by first | assumption | omega | exact ⟨by omega, by omega⟩ | exact hS _ _ | exact hT _ _) (by first | assumption | omega | exact ⟨by omega, by omega⟩ | exact hS _ _ | exact hT _ _)) rfl rfl (Nat.le_of_ble_eq_true rfl) ⟨⟨Nat.le_of_ble_eq_true rfl, Nat.le_of_ble_eq_true rfl⟩, Nat.le_of_ble_eq_true rfl, Nat.le_of_ble_eq_true rfl⟩ ?_
  refine G_name (fun S1_8 hS1_8 => ?_)
  exact G_iret_m (pc := 11) hF dX7_state_11 ⟨Nat.le_of_ble_eq_true rfl, Nat.le_of_ble_eq_true rfl⟩ (by first | rfl | omega | simp_all) (by rw [hS1_8])
set_option maxHeartbeats 4000000 in
set_option maxRecDepth 100000 in
theorem c_X7_ofGiven_70 {l : Launch} {Δ : zDl} {ad : zK → Nat} {P : zP} {S : zS} {X : zMem} {Q : zP} {g p o : Int} (hV : zWM Q S) (hg : 0 ≤ g ∧ g < Q 3 0 0) (hp : 0 ≤ p ∧ p < Q 1 (Q 4 g 0) 0) (ho : 0 ≤ o ∧ o < Q 2 (Q 4 g 0) p) : zMn l Δ yX7_ofGiven cX7_ofGiven 5 (some .int) 5 0 0 [.ref (ad (40, 0, 0, 0)), .int (zI g), .int (zI p), .int (zI o), .ref (ad (70, 0, 0, 0))] ad (mm Δ ad P S X) (zD (some (.int (zI ((zst S (40, 0, 0, 0) 0 0) (70, 0, 0, 0) (g * 80 + (zst S (40, 0, 0, 0) 0 0) (59, 0, 0, 0) ((Q 4 g 0 * 4 + p) * 80 + o)))))) ad (mm Δ ad P (zst S (40, 0, 0, 0) 0 0) X)) := by
  refine zMn_of (by decide) (Nat.le_of_ble_eq_true rfl) (fun Γ hl hΔ hF => ?_)
  subst hl hΔ
  show G Γ _ _ _ RX7 _ _ _ _ _ [(0, .ref (ad (40, 0, 0, 0))), (1, .int (zI g)), (2, .int (zI p)), (3, .int (zI o)), (4, .ref (ad (70, 0, 0, 0)))] []
  have hq := hV.q
  have hqg := hV.qg hg
  have hqt := hV.qt hqg
  have hgt := hV.gt hg
  have hgn := hV.gn hg
  have hqm := hV.qm hqg hp
  have hen := hV.en hqg hp
  refine G_aload_n (pc := 0) 0 0 dX7_ofGiven_0 rfl rfl ?_
  refine G_iconst (pc := 1) dX7_ofGiven_1 ?_
  refine G_putf (pc := 2) fl_X7_93 fp_X7_0 dX7_ofGiven_2 mg_40 (Nat.le_of_ble_eq_true rfl) rfl rfl (mp_40_0 _) ?_
  refine G_name (fun S1_2 hS1_2 => ?_)
  have hVS1_2 : zWM Q S1_2 := by rw [hS1_2]; exact hV.s40_0 (by first | assumption | exact ⟨by omega, by omega⟩)
  have hen5 := hVS1_2.en hqg hp
  refine G_aload_n (pc := 5) 0 0 dX7_ofGiven_5 rfl rfl ?_
  refine G_iload_n (pc := 6) 1 1 dX7_ofGiven_6 rfl rfl ?_
  refine G_iload_n (pc := 7) 2 2 dX7_ofGiven_7 rfl rfl ?_
  refine G_callVd (pc := 8) gk_X7_220 dX7_ofGiven_8 mg_40 rfl (c_X7_isShare (Q := Q) (by first | assumption | omega | exact ⟨by omega, by omega⟩ | exact hS _ _ | exact hT _ _) (by first | assumption | omega | exact ⟨by omega, by omega⟩ | exact hS _ _ | exact hT _ _) (by first | assumption | omega | exact ⟨by omega, by omega⟩ | exact hS _ _ | exact hT _ _)) rfl rfl (Nat.le_of_ble_eq_true rfl) ⟨⟨Nat.le_of_ble_eq_true rfl, Nat.le_of_ble_eq_true rfl⟩, Nat.le_of_ble_eq_true rfl, Nat.le_of_ble_eq_true rfl⟩ ?_
  refine G_if_eq_b (pc := 11) 35 dX7_ofGiven_11 (by decide) (fun c11 => ?_) (fun c11 => ?_)
  · exfalso
    first | exact c11 ⟨hg, hp⟩ | omega
  · refine G_iload_n (pc := 14) 3 3 dX7_ofGiven_14 rfl rfl ?_
    refine G_iconst (pc := 15) dX7_ofGiven_15 ?_
    refine G_aload_n (pc := 16) 0 0 dX7_ofGiven_16 rfl rfl ?_
    refine G_getf (pc := 17) fl_X7_26 dX7_ofGiven_17 mg_40 rfl ?_
    refine G_aload_n (pc := 20) 0 0 dX7_ofGiven_20 rfl rfl ?_
    refine G_iload_n (pc := 21) 1 1 dX7_ofGiven_21 rfl rfl ?_
    refine G_iload_n (pc := 22) 2 2 dX7_ofGiven_22 rfl rfl ?_
    refine G_callVd (pc := 23) gk_X7_201 dX7_ofGiven_23 mg_40 rfl (c_X7_whereOf (Q := Q) (by first | assumption | omega | exact ⟨by omega, by omega⟩ | exact hS _ _ | exact hT _ _) (by first | assumption | omega | exact ⟨by omega, by omega⟩ | exact hS _ _ | exact hT _ _)) rfl rfl (Nat.le_of_ble_eq_true rfl) ⟨⟨Nat.le_of_ble_eq_true rfl, Nat.le_of_ble_eq_true rfl⟩, Nat.le_of_ble_eq_true rfl, Nat.le_of_ble_eq_true rfl⟩ ?_
    refine G_iald (pc := 26) dX7_ofGiven_26 mg_48 ⟨by omega, by omega, by omega, by omega⟩ ?_
    have hb26 := hVS1_2.b48 (Q 4 g 0 * 4 + p)
    refine G_iconst (pc := 27) dX7_ofGiven_27 ?_
    refine G_isub (pc := 28) dX7_ofGiven_28 ?_
    refine G_callSd (pc := 29) gk_X7_99 dX7_ofGiven_29 (c_X7_isWithin (by first | assumption | omega | exact ⟨by omega, by omega⟩ | exact hS _ _ | exact hT _ _) (by first | assumption | omega | exact ⟨by omega, by omega⟩ | exact hS _ _ | exact hT _ _) (by first | assumption | omega | exact ⟨by omega, by omega⟩ | exact hS _ _ | exact hT _ _)) rfl rfl (Nat.le_of_ble_eq_true rfl) ⟨⟨Nat.le_of_ble_eq_true rfl, Nat.le_of_ble_eq_true rfl⟩, Nat.le_of_ble_eq_true rfl, Nat.le_of_ble_eq_true rfl⟩ ?_
    refine G_if_ne_b (pc := 32) 41 dX7_ofGiven_32 (by decide) (fun c32 => ?_) (fun c32 => ?_)
    · refine G_aload (pc := 41) 4 dX7_ofGiven_41 rfl ?_
      refine G_iload_n (pc := 43) 1 1 dX7_ofGiven_43 rfl rfl ?_
      refine G_bipush (pc := 44) dX7_ofGiven_44 (by decide) ?_
      refine G_imul (pc := 46) dX7_ofGiven_46 ?_
      refine G_aload_n (pc := 47) 0 0 dX7_ofGiven_47 rfl rfl ?_
      refine G_aload_n (pc := 48) 0 0 dX7_ofGiven_48 rfl rfl ?_
      refine G_iload_n (pc := 49) 1 1 dX7_ofGiven_49 rfl rfl ?_
      refine G_iload_n (pc := 50) 2 2 dX7_ofGiven_50 rfl rfl ?_
      refine G_callVd (pc := 51) gk_X7_201 dX7_ofGiven_51 mg_40 rfl (c_X7_whereOf (Q := Q) (by first | assumption | omega | exact ⟨by omega, by omega⟩ | exact hS _ _ | exact hT _ _) (by first | assumption | omega | exact ⟨by omega, by omega⟩ | exact hS _ _ | exact hT _ _)) rfl rfl (Nat.le_of_ble_eq_true rfl) ⟨⟨Nat.le_of_ble_eq_true rfl, Nat.le_of_ble_eq_true rfl⟩, Nat.le_of_ble_eq_true rfl, Nat.le_of_ble_eq_true rfl⟩ ?_
      refine G_iload_n (pc := 54) 3 3 dX7_ofGiven_54 rfl rfl ?_
      refine G_callVd (pc := 55) gk_X7_113 dX7_ofGiven_55 mg_40 rfl (c_X7_messageAt (Q := Q) (by first | assumption | omega | exact ⟨by omega, by omega⟩ | exact hS _ _ | exact hT _ _) (by first | assumption | omega | exact ⟨by omega, by omega⟩ | exact hS _ _ | exact hT _ _) (by first | assumption | omega | exact ⟨by omega, by omega⟩ | exact hS _ _ | exact hT _ _)) rfl rfl (Nat.le_of_ble_eq_true rfl) ⟨⟨Nat.le_of_ble_eq_true rfl, Nat.le_of_ble_eq_true rfl⟩, Nat.le_of_ble_eq_true rfl, Nat.le_of_ble_eq_true rfl⟩ ?_
      have hb55 := hVS1_2.b59 ((Q 4 g 0 * 4 + p) * 80 + o)
      refine G_iadd (pc := 58) dX7_ofGiven_58 ?_
      refine G_iald (pc := 59) dX7_ofGiven_59 mg_70 ⟨by omega, by omega, by omega, by omega⟩ ?_
      have hb59 := hVS1_2.b70 ((g * 80) + (S1_2 (59, 0, 0, 0) ((Q 4 g 0 * 4 + p) * 80 + o)))
      exact G_iret_m (pc := 60) hF dX7_ofGiven_60 ⟨Nat.le_of_ble_eq_true rfl, Nat.le_of_ble_eq_true rfl⟩ (by rw [hS1_2]) (by rw [hS1_2])
    · exfalso
      first | exact c11 ⟨hg, hp⟩ | omega
set_option maxHeartbeats 4000000 in
set_option maxRecDepth 100000 in
theorem c_X7_tries {l : Launch} {Δ : zDl} {ad : zK → Nat} {P : zP} {S : zS} {X : zMem} {Q : zP} {g p o : Int} (hV : zWM Q S) (hg : 0 ≤ g ∧ g < Q 3 0 0) (hp : 0 ≤ p ∧ p < Q 1 (Q 4 g 0) 0) (ho : 0 ≤ o ∧ o < Q 2 (Q 4 g 0) p) : zMn l Δ yX7_tries cX7_tries 4 (some .int) 9 0 0 [.ref (ad (40, 0, 0, 0)), .int (zI g), .int (zI p), .int (zI o)] ad (mm Δ ad P S X) (zD (some (.int (zI ((zst S (40, 0, 0, 0) 0 0) (70, 0, 0, 0) (g * 80 + (zst S (40, 0, 0, 0) 0 0) (59, 0, 0, 0) ((Q 4 g 0 * 4 + p) * 80 + o)))))) ad (mm Δ ad P (zst S (40, 0, 0, 0) 0 0) X)) := by
  refine zMn_of (by decide) (Nat.le_of_ble_eq_true rfl) (fun Γ hl hΔ hF => ?_)
  subst hl hΔ
  show G Γ _ _ _ RX7 _ _ _ _ _ [(0, .ref (ad (40, 0, 0, 0))), (1, .int (zI g)), (2, .int (zI p)), (3, .int (zI o))] []
  have hq := hV.q
  refine G_aload_n (pc := 0) 0 0 dX7_tries_0 rfl rfl ?_
  refine G_iload_n (pc := 1) 1 1 dX7_tries_1 rfl rfl ?_
  refine G_iload_n (pc := 2) 2 2 dX7_tries_2 rfl rfl ?_
  refine G_iload_n (pc := 3) 3 3 dX7_tries_3 rfl rfl ?_
  refine G_aload_n (pc := 4) 0 0 dX7_tries_4 rfl rfl ?_
  refine G_getf (pc := 5) fl_X7_84 dX7_tries_5 mg_40 rfl ?_
  refine G_callVd (pc := 8) gk_X7_230 dX7_tries_8 mg_40 rfl (c_X7_ofGiven_70 (Q := Q) (by first | assumption | omega | exact ⟨by omega, by omega⟩ | exact hS _ _ | exact hT _ _) (by first | assumption | omega | exact ⟨by omega, by omega⟩ | exact hS _ _ | exact hT _ _) (by first | assumption | omega | exact ⟨by omega, by omega⟩ | exact hS _ _ | exact hT _ _) (by first | assumption | omega | exact ⟨by omega, by omega⟩ | exact hS _ _ | exact hT _ _)) rfl rfl (Nat.le_of_ble_eq_true rfl) ⟨⟨Nat.le_of_ble_eq_true rfl, Nat.le_of_ble_eq_true rfl⟩, Nat.le_of_ble_eq_true rfl, Nat.le_of_ble_eq_true rfl⟩ ?_
  refine G_name (fun S1_8 hS1_8 => ?_)
  exact G_iret_m (pc := 11) hF dX7_tries_11 ⟨Nat.le_of_ble_eq_true rfl, Nat.le_of_ble_eq_true rfl⟩ (by first | rfl | omega | simp_all) (by rw [hS1_8])
set_option maxHeartbeats 4000000 in
set_option maxRecDepth 100000 in
theorem c_X7_ofGiven_70_x {l : Launch} {Δ : zDl} {ad : zK → Nat} {P : zP} {S : zS} {X : zMem} {Q : zP} {g p o : Int} (hV : zWM Q S) (hrg : zR g) (hrp : zR p) (hro : zR o) (hn : ¬ (((0 ≤ g ∧ g < Q 3 0 0) ∧ (0 ≤ p ∧ p < Q 1 (Q 4 g 0) 0)) ∧ (0 ≤ o ∧ o < Q 2 (Q 4 g 0) p))) : zMn l Δ yX7_ofGiven cX7_ofGiven 5 (some .int) 5 0 0 [.ref (ad (40, 0, 0, 0)), .int (zI g), .int (zI p), .int (zI o), .ref (ad (70, 0, 0, 0))] ad (mm Δ ad P S X) (zD (some (.int (zI 0))) ad (mm Δ ad P (zst S (40, 0, 0, 0) 0 1) X)) := by
  refine zMn_of (by decide) (Nat.le_of_ble_eq_true rfl) (fun Γ hl hΔ hF => ?_)
  subst hl hΔ
  show G Γ _ _ _ RX7 _ _ _ _ _ [(0, .ref (ad (40, 0, 0, 0))), (1, .int (zI g)), (2, .int (zI p)), (3, .int (zI o)), (4, .ref (ad (70, 0, 0, 0)))] []
  have hq := hV.q
  refine G_aload_n (pc := 0) 0 0 dX7_ofGiven_0 rfl rfl ?_
  refine G_iconst (pc := 1) dX7_ofGiven_1 ?_
  refine G_putf (pc := 2) fl_X7_93 fp_X7_0 dX7_ofGiven_2 mg_40 (Nat.le_of_ble_eq_true rfl) rfl rfl (mp_40_0 _) ?_
  refine G_name (fun S1_2 hS1_2 => ?_)
  have hVS1_2 : zWM Q S1_2 := by rw [hS1_2]; exact hV.s40_0 (by first | assumption | exact ⟨by omega, by omega⟩)
  refine G_aload_n (pc := 5) 0 0 dX7_ofGiven_5 rfl rfl ?_
  refine G_iload_n (pc := 6) 1 1 dX7_ofGiven_6 rfl rfl ?_
  refine G_iload_n (pc := 7) 2 2 dX7_ofGiven_7 rfl rfl ?_
  refine G_callVd (pc := 8) gk_X7_220 dX7_ofGiven_8 mg_40 rfl (c_X7_isShare (Q := Q) (by first | assumption | omega | exact ⟨by omega, by omega⟩ | exact hS _ _ | exact hT _ _) (by first | assumption | omega | exact ⟨by omega, by omega⟩ | exact hS _ _ | exact hT _ _) (by first | assumption | omega | exact ⟨by omega, by omega⟩ | exact hS _ _ | exact hT _ _)) rfl rfl (Nat.le_of_ble_eq_true rfl) ⟨⟨Nat.le_of_ble_eq_true rfl, Nat.le_of_ble_eq_true rfl⟩, Nat.le_of_ble_eq_true rfl, Nat.le_of_ble_eq_true rfl⟩ ?_
  refine G_if_eq_b (pc := 11) 35 dX7_ofGiven_11 (by decide) (fun c11 => ?_) (fun c11 => ?_)
  · refine G_aload_n (pc := 35) 0 0 dX7_ofGiven_35 rfl rfl ?_
    refine G_iconst (pc := 36) dX7_ofGiven_36 ?_
    refine G_callVd (pc := 37) gk_X7_134 dX7_ofGiven_37 mg_40 rfl (c_X7_no (Q := Q) (by first | assumption | omega | exact ⟨by omega, by omega⟩ | exact hS _ _ | exact hT _ _) (by first | assumption | omega | exact ⟨by omega, by omega⟩ | exact hS _ _ | exact hT _ _)) rfl rfl (Nat.le_of_ble_eq_true rfl) ⟨⟨Nat.le_of_ble_eq_true rfl, Nat.le_of_ble_eq_true rfl⟩, Nat.le_of_ble_eq_true rfl, Nat.le_of_ble_eq_true rfl⟩ ?_
    refine G_name (fun S2_37 hS2_37 => ?_)
    have hVS2_37 : zWM Q S2_37 := by rw [hS2_37]; exact hVS1_2.s40_0 (by first | assumption | exact ⟨by omega, by omega⟩)
    exact G_iret_m (pc := 40) hF dX7_ofGiven_40 ⟨Nat.le_of_ble_eq_true rfl, Nat.le_of_ble_eq_true rfl⟩ (by first | rfl | omega | simp_all) (by rw [hS2_37, hS1_2, zst_zst])
  · have hg := c11.1
    have hp := c11.2
    have hqg := hV.qg hg
    have hqt := hV.qt hqg
    have hgt := hV.gt hg
    have hgn := hV.gn hg
    have hqm := hV.qm hqg hp
    have hen := hV.en hqg hp
    have hen5 := hVS1_2.en hqg hp
    refine G_iload_n (pc := 14) 3 3 dX7_ofGiven_14 rfl rfl ?_
    refine G_iconst (pc := 15) dX7_ofGiven_15 ?_
    refine G_aload_n (pc := 16) 0 0 dX7_ofGiven_16 rfl rfl ?_
    refine G_getf (pc := 17) fl_X7_26 dX7_ofGiven_17 mg_40 rfl ?_
    refine G_aload_n (pc := 20) 0 0 dX7_ofGiven_20 rfl rfl ?_
    refine G_iload_n (pc := 21) 1 1 dX7_ofGiven_21 rfl rfl ?_
    refine G_iload_n (pc := 22) 2 2 dX7_ofGiven_22 rfl rfl ?_
    refine G_callVd (pc := 23) gk_X7_201 dX7_ofGiven_23 mg_40 rfl (c_X7_whereOf (Q := Q) (by first | assumption | omega | exact ⟨by omega, by omega⟩ | exact hS _ _ | exact hT _ _) (by first | assumption | omega | exact ⟨by omega, by omega⟩ | exact hS _ _ | exact hT _ _)) rfl rfl (Nat.le_of_ble_eq_true rfl) ⟨⟨Nat.le_of_ble_eq_true rfl, Nat.le_of_ble_eq_true rfl⟩, Nat.le_of_ble_eq_true rfl, Nat.le_of_ble_eq_true rfl⟩ ?_
    refine G_iald (pc := 26) dX7_ofGiven_26 mg_48 ⟨by omega, by omega, by omega, by omega⟩ ?_
    have hb26 := hVS1_2.b48 (Q 4 g 0 * 4 + p)
    refine G_iconst (pc := 27) dX7_ofGiven_27 ?_
    refine G_isub (pc := 28) dX7_ofGiven_28 ?_
    refine G_callSd (pc := 29) gk_X7_99 dX7_ofGiven_29 (c_X7_isWithin (by first | assumption | omega | exact ⟨by omega, by omega⟩ | exact hS _ _ | exact hT _ _) (by first | assumption | omega | exact ⟨by omega, by omega⟩ | exact hS _ _ | exact hT _ _) (by first | assumption | omega | exact ⟨by omega, by omega⟩ | exact hS _ _ | exact hT _ _)) rfl rfl (Nat.le_of_ble_eq_true rfl) ⟨⟨Nat.le_of_ble_eq_true rfl, Nat.le_of_ble_eq_true rfl⟩, Nat.le_of_ble_eq_true rfl, Nat.le_of_ble_eq_true rfl⟩ ?_
    refine G_if_ne_b (pc := 32) 41 dX7_ofGiven_32 (by decide) (fun c32 => ?_) (fun c32 => ?_)
    · exfalso
      exact hn ⟨c11, by omega⟩
    · refine G_aload_n (pc := 35) 0 0 dX7_ofGiven_35 rfl rfl ?_
      refine G_iconst (pc := 36) dX7_ofGiven_36 ?_
      refine G_callVd (pc := 37) gk_X7_134 dX7_ofGiven_37 mg_40 rfl (c_X7_no (Q := Q) (by first | assumption | omega | exact ⟨by omega, by omega⟩ | exact hS _ _ | exact hT _ _) (by first | assumption | omega | exact ⟨by omega, by omega⟩ | exact hS _ _ | exact hT _ _)) rfl rfl (Nat.le_of_ble_eq_true rfl) ⟨⟨Nat.le_of_ble_eq_true rfl, Nat.le_of_ble_eq_true rfl⟩, Nat.le_of_ble_eq_true rfl, Nat.le_of_ble_eq_true rfl⟩ ?_
      refine G_name (fun S3_37 hS3_37 => ?_)
      have hVS3_37 : zWM Q S3_37 := by rw [hS3_37]; exact hVS1_2.s40_0 (by first | assumption | exact ⟨by omega, by omega⟩)
      exact G_iret_m (pc := 40) hF dX7_ofGiven_40 ⟨Nat.le_of_ble_eq_true rfl, Nat.le_of_ble_eq_true rfl⟩ (by first | rfl | omega | simp_all) (by rw [hS3_37, hS1_2, zst_zst])
set_option maxHeartbeats 4000000 in
set_option maxRecDepth 100000 in
theorem c_X7_tries_x {l : Launch} {Δ : zDl} {ad : zK → Nat} {P : zP} {S : zS} {X : zMem} {Q : zP} {g p o : Int} (hV : zWM Q S) (hrg : zR g) (hrp : zR p) (hro : zR o) (hn : ¬ (((0 ≤ g ∧ g < Q 3 0 0) ∧ (0 ≤ p ∧ p < Q 1 (Q 4 g 0) 0)) ∧ (0 ≤ o ∧ o < Q 2 (Q 4 g 0) p))) : zMn l Δ yX7_tries cX7_tries 4 (some .int) 9 0 0 [.ref (ad (40, 0, 0, 0)), .int (zI g), .int (zI p), .int (zI o)] ad (mm Δ ad P S X) (zD (some (.int (zI 0))) ad (mm Δ ad P (zst S (40, 0, 0, 0) 0 1) X)) := by
  refine zMn_of (by decide) (Nat.le_of_ble_eq_true rfl) (fun Γ hl hΔ hF => ?_)
  subst hl hΔ
  show G Γ _ _ _ RX7 _ _ _ _ _ [(0, .ref (ad (40, 0, 0, 0))), (1, .int (zI g)), (2, .int (zI p)), (3, .int (zI o))] []
  have hq := hV.q
  refine G_aload_n (pc := 0) 0 0 dX7_tries_0 rfl rfl ?_
  refine G_iload_n (pc := 1) 1 1 dX7_tries_1 rfl rfl ?_
  refine G_iload_n (pc := 2) 2 2 dX7_tries_2 rfl rfl ?_
  refine G_iload_n (pc := 3) 3 3 dX7_tries_3 rfl rfl ?_
  refine G_aload_n (pc := 4) 0 0 dX7_tries_4 rfl rfl ?_
  refine G_getf (pc := 5) fl_X7_84 dX7_tries_5 mg_40 rfl ?_
  refine G_callVd (pc := 8) gk_X7_230 dX7_tries_8 mg_40 rfl (c_X7_ofGiven_70_x (Q := Q) (by first | assumption | omega | exact ⟨by omega, by omega⟩ | exact hS _ _ | exact hT _ _) (by first | assumption | omega | exact ⟨by omega, by omega⟩ | exact hS _ _ | exact hT _ _) (by first | assumption | omega | exact ⟨by omega, by omega⟩ | exact hS _ _ | exact hT _ _) (by first | assumption | omega | exact ⟨by omega, by omega⟩ | exact hS _ _ | exact hT _ _) (by first | assumption | omega | exact ⟨by omega, by omega⟩ | exact hS _ _ | exact hT _ _)) rfl rfl (Nat.le_of_ble_eq_true rfl) ⟨⟨Nat.le_of_ble_eq_true rfl, Nat.le_of_ble_eq_true rfl⟩, Nat.le_of_ble_eq_true rfl, Nat.le_of_ble_eq_true rfl⟩ ?_
  refine G_name (fun S1_8 hS1_8 => ?_)
  exact G_iret_m (pc := 11) hF dX7_tries_11 ⟨Nat.le_of_ble_eq_true rfl, Nat.le_of_ble_eq_true rfl⟩ (by first | rfl | omega | simp_all) (by rw [hS1_8])
set_option maxHeartbeats 4000000 in
set_option maxRecDepth 100000 in
theorem c_X7_lag {l : Launch} {Δ : zDl} {ad : zK → Nat} {P : zP} {S : zS} {X : zMem} {Q : zP} {g p : Int} (hV : zWM Q S) (hg : 0 ≤ g ∧ g < Q 3 0 0) (hp : 0 ≤ p ∧ p < Q 1 (Q 4 g 0) 0) (h61 : Q 61 0 0 = P 61 0 0) : zMn l Δ yX7_lag cX7_lag 3 (some .int) 9 0 0 [.ref (ad (40, 0, 0, 0)), .int (zI g), .int (zI p)] ad (mm Δ ad P S X) (zD (some (.int (zI (mlg Q (zst S (40, 0, 0, 0) 0 0) g p)))) ad (mm Δ ad P (zst S (40, 0, 0, 0) 0 0) X)) := by
  refine zMn_of (by decide) (Nat.le_of_ble_eq_true rfl) (fun Γ hl hΔ hF => ?_)
  subst hl hΔ
  show G Γ _ _ _ RX7 _ _ _ _ _ [(0, .ref (ad (40, 0, 0, 0))), (1, .int (zI g)), (2, .int (zI p))] []
  have hq := hV.q
  have hqg := hV.qg hg
  have hqt := hV.qt hqg
  have hgt := hV.gt hg
  have hgn := hV.gn hg
  have hqm := hV.qm hqg hp
  have hen := hV.en hqg hp
  refine G_aload_n (pc := 0) 0 0 dX7_lag_0 rfl rfl ?_
  refine G_iconst (pc := 1) dX7_lag_1 ?_
  refine G_putf (pc := 2) fl_X7_93 fp_X7_0 dX7_lag_2 mg_40 (Nat.le_of_ble_eq_true rfl) rfl rfl (mp_40_0 _) ?_
  refine G_name (fun S1_2 hS1_2 => ?_)
  have hVS1_2 : zWM Q S1_2 := by rw [hS1_2]; exact hV.s40_0 (by first | assumption | exact ⟨by omega, by omega⟩)
  refine G_aload_n (pc := 5) 0 0 dX7_lag_5 rfl rfl ?_
  refine G_iload_n (pc := 6) 1 1 dX7_lag_6 rfl rfl ?_
  refine G_iload_n (pc := 7) 2 2 dX7_lag_7 rfl rfl ?_
  refine G_callVd (pc := 8) gk_X7_220 dX7_lag_8 mg_40 rfl (c_X7_isShare (Q := Q) (by first | assumption | omega | exact ⟨by omega, by omega⟩ | exact hS _ _ | exact hT _ _) (by first | assumption | omega | exact ⟨by omega, by omega⟩ | exact hS _ _ | exact hT _ _) (by first | assumption | omega | exact ⟨by omega, by omega⟩ | exact hS _ _ | exact hT _ _)) rfl rfl (Nat.le_of_ble_eq_true rfl) ⟨⟨Nat.le_of_ble_eq_true rfl, Nat.le_of_ble_eq_true rfl⟩, Nat.le_of_ble_eq_true rfl, Nat.le_of_ble_eq_true rfl⟩ ?_
  refine G_if_eq_b (pc := 11) 23 dX7_lag_11 (by decide) (fun c11 => ?_) (fun c11 => ?_)
  · exfalso
    exact c11 ⟨hg, hp⟩
  · refine G_aload_n (pc := 14) 0 0 dX7_lag_14 rfl rfl ?_
    refine G_iload_n (pc := 15) 1 1 dX7_lag_15 rfl rfl ?_
    refine G_iload_n (pc := 16) 2 2 dX7_lag_16 rfl rfl ?_
    refine G_callVd (pc := 17) gk_X7_234 dX7_lag_17 mg_40 rfl (c_X7_lagNow (Q := Q) (by first | assumption | omega | exact ⟨by omega, by omega⟩ | exact hS _ _ | exact hT _ _) (by first | assumption | omega | exact ⟨by omega, by omega⟩ | exact hS _ _ | exact hT _ _) (by first | assumption | omega | exact ⟨by omega, by omega⟩ | exact hS _ _ | exact hT _ _) (by first | assumption | omega | exact ⟨by omega, by omega⟩ | exact hS _ _ | exact hT _ _)) rfl rfl (Nat.le_of_ble_eq_true rfl) ⟨⟨Nat.le_of_ble_eq_true rfl, Nat.le_of_ble_eq_true rfl⟩, Nat.le_of_ble_eq_true rfl, Nat.le_of_ble_eq_true rfl⟩ ?_
    refine G_goto (pc := 20) 28 dX7_lag_20 (by decide) ?_
    exact G_iret_m (pc := 28) hF dX7_lag_28 ⟨Nat.le_of_ble_eq_true rfl, Nat.le_of_ble_eq_true rfl⟩ (by rw [hS1_2]) (by rw [hS1_2])
set_option maxHeartbeats 4000000 in
set_option maxRecDepth 100000 in
theorem c_X7_lag_x {l : Launch} {Δ : zDl} {ad : zK → Nat} {P : zP} {S : zS} {X : zMem} {Q : zP} {g p : Int} (hV : zWM Q S) (h61 : Q 61 0 0 = P 61 0 0) (hrg : zR g) (hrp : zR p) (hn : ¬ ((0 ≤ g ∧ g < Q 3 0 0) ∧ (0 ≤ p ∧ p < Q 1 (Q 4 g 0) 0))) : zMn l Δ yX7_lag cX7_lag 3 (some .int) 9 0 0 [.ref (ad (40, 0, 0, 0)), .int (zI g), .int (zI p)] ad (mm Δ ad P S X) (zD (some (.int (zI 0))) ad (mm Δ ad P (zst S (40, 0, 0, 0) 0 1) X)) := by
  refine zMn_of (by decide) (Nat.le_of_ble_eq_true rfl) (fun Γ hl hΔ hF => ?_)
  subst hl hΔ
  show G Γ _ _ _ RX7 _ _ _ _ _ [(0, .ref (ad (40, 0, 0, 0))), (1, .int (zI g)), (2, .int (zI p))] []
  have hq := hV.q
  refine G_aload_n (pc := 0) 0 0 dX7_lag_0 rfl rfl ?_
  refine G_iconst (pc := 1) dX7_lag_1 ?_
  refine G_putf (pc := 2) fl_X7_93 fp_X7_0 dX7_lag_2 mg_40 (Nat.le_of_ble_eq_true rfl) rfl rfl (mp_40_0 _) ?_
  refine G_name (fun S1_2 hS1_2 => ?_)
  have hVS1_2 : zWM Q S1_2 := by rw [hS1_2]; exact hV.s40_0 (by first | assumption | exact ⟨by omega, by omega⟩)
  refine G_aload_n (pc := 5) 0 0 dX7_lag_5 rfl rfl ?_
  refine G_iload_n (pc := 6) 1 1 dX7_lag_6 rfl rfl ?_
  refine G_iload_n (pc := 7) 2 2 dX7_lag_7 rfl rfl ?_
  refine G_callVd (pc := 8) gk_X7_220 dX7_lag_8 mg_40 rfl (c_X7_isShare (Q := Q) (by first | assumption | omega | exact ⟨by omega, by omega⟩ | exact hS _ _ | exact hT _ _) (by first | assumption | omega | exact ⟨by omega, by omega⟩ | exact hS _ _ | exact hT _ _) (by first | assumption | omega | exact ⟨by omega, by omega⟩ | exact hS _ _ | exact hT _ _)) rfl rfl (Nat.le_of_ble_eq_true rfl) ⟨⟨Nat.le_of_ble_eq_true rfl, Nat.le_of_ble_eq_true rfl⟩, Nat.le_of_ble_eq_true rfl, Nat.le_of_ble_eq_true rfl⟩ ?_
  refine G_if_eq_b (pc := 11) 23 dX7_lag_11 (by decide) (fun c11 => ?_) (fun c11 => ?_)
  · refine G_aload_n (pc := 23) 0 0 dX7_lag_23 rfl rfl ?_
    refine G_iconst (pc := 24) dX7_lag_24 ?_
    refine G_callVd (pc := 25) gk_X7_134 dX7_lag_25 mg_40 rfl (c_X7_no (Q := Q) (by first | assumption | omega | exact ⟨by omega, by omega⟩ | exact hS _ _ | exact hT _ _) (by first | assumption | omega | exact ⟨by omega, by omega⟩ | exact hS _ _ | exact hT _ _)) rfl rfl (Nat.le_of_ble_eq_true rfl) ⟨⟨Nat.le_of_ble_eq_true rfl, Nat.le_of_ble_eq_true rfl⟩, Nat.le_of_ble_eq_true rfl, Nat.le_of_ble_eq_true rfl⟩ ?_
    refine G_name (fun S2_25 hS2_25 => ?_)
    have hVS2_25 : zWM Q S2_25 := by rw [hS2_25]; exact hVS1_2.s40_0 (by first | assumption | exact ⟨by omega, by omega⟩)
    exact G_iret_m (pc := 28) hF dX7_lag_28 ⟨Nat.le_of_ble_eq_true rfl, Nat.le_of_ble_eq_true rfl⟩ (by first | rfl | omega | simp_all) (by rw [hS2_25, hS1_2, zst_zst])
  · exfalso
    exact hn c11
set_option maxHeartbeats 4000000 in
set_option maxRecDepth 100000 in
theorem c_X7_aside {l : Launch} {Δ : zDl} {ad : zK → Nat} {P : zP} {S : zS} {X : zMem} {Q : zP} {g : Int} (hV : zWM Q S) (hg : 0 ≤ g ∧ g < Q 3 0 0) : zMn l Δ yX7_aside cX7_aside 2 (some .int) 9 0 0 [.ref (ad (40, 0, 0, 0)), .int (zI g)] ad (mm Δ ad P S X) (zD (some (.int (zI (mco (zst S (40, 0, 0, 0) 0 0) g 4)))) ad (mm Δ ad P (zst S (40, 0, 0, 0) 0 0) X)) := by
  refine zMn_of (by decide) (Nat.le_of_ble_eq_true rfl) (fun Γ hl hΔ hF => ?_)
  subst hl hΔ
  show G Γ _ _ _ RX7 _ _ _ _ _ [(0, .ref (ad (40, 0, 0, 0))), (1, .int (zI g))] []
  have hq := hV.q
  have h23 := hV.g23
  refine G_aload_n (pc := 0) 0 0 dX7_aside_0 rfl rfl ?_
  refine G_iconst (pc := 1) dX7_aside_1 ?_
  refine G_putf (pc := 2) fl_X7_93 fp_X7_0 dX7_aside_2 mg_40 (Nat.le_of_ble_eq_true rfl) rfl rfl (mp_40_0 _) ?_
  refine G_name (fun S1_2 hS1_2 => ?_)
  have hVS1_2 : zWM Q S1_2 := by rw [hS1_2]; exact hV.s40_0 (by first | assumption | exact ⟨by omega, by omega⟩)
  have h235 := hVS1_2.g23
  refine G_aload_n (pc := 5) 0 0 dX7_aside_5 rfl rfl ?_
  refine G_iload_n (pc := 6) 1 1 dX7_aside_6 rfl rfl ?_
  refine G_callVd (pc := 7) gk_X7_110 dX7_aside_7 mg_40 rfl (c_X7_isGroup (Q := Q) (by first | assumption | omega | exact ⟨by omega, by omega⟩ | exact hS _ _ | exact hT _ _) (by first | assumption | omega | exact ⟨by omega, by omega⟩ | exact hS _ _ | exact hT _ _)) rfl rfl (Nat.le_of_ble_eq_true rfl) ⟨⟨Nat.le_of_ble_eq_true rfl, Nat.le_of_ble_eq_true rfl⟩, Nat.le_of_ble_eq_true rfl, Nat.le_of_ble_eq_true rfl⟩ ?_
  refine G_if_eq_b (pc := 10) 22 dX7_aside_10 (by decide) (fun c10 => ?_) (fun c10 => ?_)
  · exfalso
    omega
  · refine G_aload_n (pc := 13) 0 0 dX7_aside_13 rfl rfl ?_
    refine G_iload_n (pc := 14) 1 1 dX7_aside_14 rfl rfl ?_
    refine G_iconst (pc := 15) dX7_aside_15 ?_
    refine G_callVd (pc := 16) gk_X7_237 dX7_aside_16 mg_40 rfl (c_X7_countOf (Q := Q) (by first | assumption | omega | exact ⟨by omega, by omega⟩ | exact hS _ _ | exact hT _ _) (by first | assumption | omega | exact ⟨by omega, by omega⟩ | exact hS _ _ | exact hT _ _) (by first | assumption | omega | exact ⟨by omega, by omega⟩ | exact hS _ _ | exact hT _ _)) rfl rfl (Nat.le_of_ble_eq_true rfl) ⟨⟨Nat.le_of_ble_eq_true rfl, Nat.le_of_ble_eq_true rfl⟩, Nat.le_of_ble_eq_true rfl, Nat.le_of_ble_eq_true rfl⟩ ?_
    refine G_goto (pc := 19) 27 dX7_aside_19 (by decide) ?_
    exact G_iret_m (pc := 27) hF dX7_aside_27 ⟨Nat.le_of_ble_eq_true rfl, Nat.le_of_ble_eq_true rfl⟩ (by rw [hS1_2]) (by rw [hS1_2])
set_option maxHeartbeats 4000000 in
set_option maxRecDepth 100000 in
theorem c_X7_aside_x {l : Launch} {Δ : zDl} {ad : zK → Nat} {P : zP} {S : zS} {X : zMem} {Q : zP} {g : Int} (hV : zWM Q S) (hrg : zR g) (hn : ¬ (0 ≤ g ∧ g < Q 3 0 0)) : zMn l Δ yX7_aside cX7_aside 2 (some .int) 9 0 0 [.ref (ad (40, 0, 0, 0)), .int (zI g)] ad (mm Δ ad P S X) (zD (some (.int (zI 0))) ad (mm Δ ad P (zst S (40, 0, 0, 0) 0 1) X)) := by
  refine zMn_of (by decide) (Nat.le_of_ble_eq_true rfl) (fun Γ hl hΔ hF => ?_)
  subst hl hΔ
  show G Γ _ _ _ RX7 _ _ _ _ _ [(0, .ref (ad (40, 0, 0, 0))), (1, .int (zI g))] []
  have hq := hV.q
  have h23 := hV.g23
  refine G_aload_n (pc := 0) 0 0 dX7_aside_0 rfl rfl ?_
  refine G_iconst (pc := 1) dX7_aside_1 ?_
  refine G_putf (pc := 2) fl_X7_93 fp_X7_0 dX7_aside_2 mg_40 (Nat.le_of_ble_eq_true rfl) rfl rfl (mp_40_0 _) ?_
  refine G_name (fun S1_2 hS1_2 => ?_)
  have hVS1_2 : zWM Q S1_2 := by rw [hS1_2]; exact hV.s40_0 (by first | assumption | exact ⟨by omega, by omega⟩)
  have h235 := hVS1_2.g23
  refine G_aload_n (pc := 5) 0 0 dX7_aside_5 rfl rfl ?_
  refine G_iload_n (pc := 6) 1 1 dX7_aside_6 rfl rfl ?_
  refine G_callVd (pc := 7) gk_X7_110 dX7_aside_7 mg_40 rfl (c_X7_isGroup (Q := Q) (by first | assumption | omega | exact ⟨by omega, by omega⟩ | exact hS _ _ | exact hT _ _) (by first | assumption | omega | exact ⟨by omega, by omega⟩ | exact hS _ _ | exact hT _ _)) rfl rfl (Nat.le_of_ble_eq_true rfl) ⟨⟨Nat.le_of_ble_eq_true rfl, Nat.le_of_ble_eq_true rfl⟩, Nat.le_of_ble_eq_true rfl, Nat.le_of_ble_eq_true rfl⟩ ?_
  refine G_if_eq_b (pc := 10) 22 dX7_aside_10 (by decide) (fun c10 => ?_) (fun c10 => ?_)
  · refine G_aload_n (pc := 22) 0 0 dX7_aside_22 rfl rfl ?_
    refine G_iconst (pc := 23) dX7_aside_23 ?_
    refine G_callVd (pc := 24) gk_X7_134 dX7_aside_24 mg_40 rfl (c_X7_no (Q := Q) (by first | assumption | omega | exact ⟨by omega, by omega⟩ | exact hS _ _ | exact hT _ _) (by first | assumption | omega | exact ⟨by omega, by omega⟩ | exact hS _ _ | exact hT _ _)) rfl rfl (Nat.le_of_ble_eq_true rfl) ⟨⟨Nat.le_of_ble_eq_true rfl, Nat.le_of_ble_eq_true rfl⟩, Nat.le_of_ble_eq_true rfl, Nat.le_of_ble_eq_true rfl⟩ ?_
    refine G_name (fun S2_24 hS2_24 => ?_)
    have hVS2_24 : zWM Q S2_24 := by rw [hS2_24]; exact hVS1_2.s40_0 (by first | assumption | exact ⟨by omega, by omega⟩)
    exact G_iret_m (pc := 27) hF dX7_aside_27 ⟨Nat.le_of_ble_eq_true rfl, Nat.le_of_ble_eq_true rfl⟩ (by first | rfl | omega | simp_all) (by rw [hS2_24, hS1_2, zst_zst])
  · exfalso
    omega
set_option maxHeartbeats 4000000 in
set_option maxRecDepth 100000 in
theorem c_X7_nextTime {l : Launch} {Δ : zDl} {ad : zK → Nat} {P : zP} {S : zS} {X : zMem} {Q : zP} {g : Int} (hV : zWM Q S) (hg : 0 ≤ g ∧ g < Q 3 0 0) (h61 : Q 61 0 0 = P 61 0 0) : zMn l Δ yX7_nextTime cX7_nextTime 2 (some .int) 9 0 0 [.ref (ad (40, 0, 0, 0)), .int (zI g)] ad (mm Δ ad P S X) (zD (some (.int (zI (mnn Q (zst S (40, 0, 0, 0) 0 0) g)))) ad (mm Δ ad P (zst S (40, 0, 0, 0) 0 0) X)) := by
  refine zMn_of (by decide) (Nat.le_of_ble_eq_true rfl) (fun Γ hl hΔ hF => ?_)
  subst hl hΔ
  show G Γ _ _ _ RX7 _ _ _ _ _ [(0, .ref (ad (40, 0, 0, 0))), (1, .int (zI g))] []
  have hq := hV.q
  have h23 := hV.g23
  refine G_aload_n (pc := 0) 0 0 dX7_nextTime_0 rfl rfl ?_
  refine G_iconst (pc := 1) dX7_nextTime_1 ?_
  refine G_putf (pc := 2) fl_X7_93 fp_X7_0 dX7_nextTime_2 mg_40 (Nat.le_of_ble_eq_true rfl) rfl rfl (mp_40_0 _) ?_
  refine G_name (fun S1_2 hS1_2 => ?_)
  have hVS1_2 : zWM Q S1_2 := by rw [hS1_2]; exact hV.s40_0 (by first | assumption | exact ⟨by omega, by omega⟩)
  have h235 := hVS1_2.g23
  refine G_aload_n (pc := 5) 0 0 dX7_nextTime_5 rfl rfl ?_
  refine G_iload_n (pc := 6) 1 1 dX7_nextTime_6 rfl rfl ?_
  refine G_callVd (pc := 7) gk_X7_110 dX7_nextTime_7 mg_40 rfl (c_X7_isGroup (Q := Q) (by first | assumption | omega | exact ⟨by omega, by omega⟩ | exact hS _ _ | exact hT _ _) (by first | assumption | omega | exact ⟨by omega, by omega⟩ | exact hS _ _ | exact hT _ _)) rfl rfl (Nat.le_of_ble_eq_true rfl) ⟨⟨Nat.le_of_ble_eq_true rfl, Nat.le_of_ble_eq_true rfl⟩, Nat.le_of_ble_eq_true rfl, Nat.le_of_ble_eq_true rfl⟩ ?_
  refine G_if_eq_b (pc := 10) 21 dX7_nextTime_10 (by decide) (fun c10 => ?_) (fun c10 => ?_)
  · exfalso
    omega
  · refine G_aload_n (pc := 13) 0 0 dX7_nextTime_13 rfl rfl ?_
    refine G_iload_n (pc := 14) 1 1 dX7_nextTime_14 rfl rfl ?_
    refine G_callVd (pc := 15) gk_X7_246 dX7_nextTime_15 mg_40 rfl (c_X7_nextNow (Q := Q) (by first | assumption | omega | exact ⟨by omega, by omega⟩ | exact hS _ _ | exact hT _ _) (by first | assumption | omega | exact ⟨by omega, by omega⟩ | exact hS _ _ | exact hT _ _) (by first | assumption | omega | exact ⟨by omega, by omega⟩ | exact hS _ _ | exact hT _ _)) rfl rfl (Nat.le_of_ble_eq_true rfl) ⟨⟨Nat.le_of_ble_eq_true rfl, Nat.le_of_ble_eq_true rfl⟩, Nat.le_of_ble_eq_true rfl, Nat.le_of_ble_eq_true rfl⟩ ?_
    have hb15 := mnn_le (Q := Q) (g := g) hVS1_2
    refine G_goto (pc := 18) 26 dX7_nextTime_18 (by decide) ?_
    exact G_iret_m (pc := 26) hF dX7_nextTime_26 ⟨Nat.le_of_ble_eq_true rfl, Nat.le_of_ble_eq_true rfl⟩ (by rw [hS1_2]) (by rw [hS1_2])
set_option maxHeartbeats 4000000 in
set_option maxRecDepth 100000 in
theorem c_X7_nextTime_x {l : Launch} {Δ : zDl} {ad : zK → Nat} {P : zP} {S : zS} {X : zMem} {Q : zP} {g : Int} (hV : zWM Q S) (h61 : Q 61 0 0 = P 61 0 0) (hrg : zR g) (hn : ¬ (0 ≤ g ∧ g < Q 3 0 0)) : zMn l Δ yX7_nextTime cX7_nextTime 2 (some .int) 9 0 0 [.ref (ad (40, 0, 0, 0)), .int (zI g)] ad (mm Δ ad P S X) (zD (some (.int (zI 0))) ad (mm Δ ad P (zst S (40, 0, 0, 0) 0 1) X)) := by
  refine zMn_of (by decide) (Nat.le_of_ble_eq_true rfl) (fun Γ hl hΔ hF => ?_)
  subst hl hΔ
  show G Γ _ _ _ RX7 _ _ _ _ _ [(0, .ref (ad (40, 0, 0, 0))), (1, .int (zI g))] []
  have hq := hV.q
  have h23 := hV.g23
  refine G_aload_n (pc := 0) 0 0 dX7_nextTime_0 rfl rfl ?_
  refine G_iconst (pc := 1) dX7_nextTime_1 ?_
  refine G_putf (pc := 2) fl_X7_93 fp_X7_0 dX7_nextTime_2 mg_40 (Nat.le_of_ble_eq_true rfl) rfl rfl (mp_40_0 _) ?_
  refine G_name (fun S1_2 hS1_2 => ?_)
  have hVS1_2 : zWM Q S1_2 := by rw [hS1_2]; exact hV.s40_0 (by first | assumption | exact ⟨by omega, by omega⟩)
  have h235 := hVS1_2.g23
  refine G_aload_n (pc := 5) 0 0 dX7_nextTime_5 rfl rfl ?_
  refine G_iload_n (pc := 6) 1 1 dX7_nextTime_6 rfl rfl ?_
  refine G_callVd (pc := 7) gk_X7_110 dX7_nextTime_7 mg_40 rfl (c_X7_isGroup (Q := Q) (by first | assumption | omega | exact ⟨by omega, by omega⟩ | exact hS _ _ | exact hT _ _) (by first | assumption | omega | exact ⟨by omega, by omega⟩ | exact hS _ _ | exact hT _ _)) rfl rfl (Nat.le_of_ble_eq_true rfl) ⟨⟨Nat.le_of_ble_eq_true rfl, Nat.le_of_ble_eq_true rfl⟩, Nat.le_of_ble_eq_true rfl, Nat.le_of_ble_eq_true rfl⟩ ?_
  refine G_if_eq_b (pc := 10) 21 dX7_nextTime_10 (by decide) (fun c10 => ?_) (fun c10 => ?_)
  · refine G_aload_n (pc := 21) 0 0 dX7_nextTime_21 rfl rfl ?_
    refine G_iconst (pc := 22) dX7_nextTime_22 ?_
    refine G_callVd (pc := 23) gk_X7_134 dX7_nextTime_23 mg_40 rfl (c_X7_no (Q := Q) (by first | assumption | omega | exact ⟨by omega, by omega⟩ | exact hS _ _ | exact hT _ _) (by first | assumption | omega | exact ⟨by omega, by omega⟩ | exact hS _ _ | exact hT _ _)) rfl rfl (Nat.le_of_ble_eq_true rfl) ⟨⟨Nat.le_of_ble_eq_true rfl, Nat.le_of_ble_eq_true rfl⟩, Nat.le_of_ble_eq_true rfl, Nat.le_of_ble_eq_true rfl⟩ ?_
    refine G_name (fun S2_23 hS2_23 => ?_)
    have hVS2_23 : zWM Q S2_23 := by rw [hS2_23]; exact hVS1_2.s40_0 (by first | assumption | exact ⟨by omega, by omega⟩)
    exact G_iret_m (pc := 26) hF dX7_nextTime_26 ⟨Nat.le_of_ble_eq_true rfl, Nat.le_of_ble_eq_true rfl⟩ (by first | rfl | omega | simp_all) (by rw [hS2_23, hS1_2, zst_zst])
  · exfalso
    omega
set_option maxHeartbeats 4000000 in
set_option maxRecDepth 100000 in
theorem c_X7_row {l : Launch} {Δ : zDl} {ad : zK → Nat} {P : zP} {S : zS} {X : zMem} {Q : zP} {x w : Int} (hV : zWM Q S) (hx : 0 ≤ x ∧ x < S (40, 0, 0, 0) 32) (hw : 0 ≤ w ∧ w ≤ 4) : zMn l Δ yX7_row cX7_row 3 (some .int) 9 0 0 [.ref (ad (40, 0, 0, 0)), .int (zI x), .int (zI w)] ad (mm Δ ad P S X) (zD (some (.int (zI ((zst S (40, 0, 0, 0) 0 0) (73, 0, 0, 0) (x * 5 + w))))) ad (mm Δ ad P (zst S (40, 0, 0, 0) 0 0) X)) := by
  refine zMn_of (by decide) (Nat.le_of_ble_eq_true rfl) (fun Γ hl hΔ hF => ?_)
  subst hl hΔ
  show G Γ _ _ _ RX7 _ _ _ _ _ [(0, .ref (ad (40, 0, 0, 0))), (1, .int (zI x)), (2, .int (zI w))] []
  have hq := hV.q
  have h32 := hV.f32
  refine G_aload_n (pc := 0) 0 0 dX7_row_0 rfl rfl ?_
  refine G_iconst (pc := 1) dX7_row_1 ?_
  refine G_putf (pc := 2) fl_X7_93 fp_X7_0 dX7_row_2 mg_40 (Nat.le_of_ble_eq_true rfl) rfl rfl (mp_40_0 _) ?_
  refine G_name (fun S1_2 hS1_2 => ?_)
  have hVS1_2 : zWM Q S1_2 := by rw [hS1_2]; exact hV.s40_0 (by first | assumption | exact ⟨by omega, by omega⟩)
  have h325 : S1_2 (40, 0, 0, 0) 32 = S (40, 0, 0, 0) 32 := by rw [hS1_2, zst_f _ _ _ (by decide)]
  refine G_iload_n (pc := 5) 1 1 dX7_row_5 rfl rfl ?_
  refine G_iconst (pc := 6) dX7_row_6 ?_
  refine G_aload_n (pc := 7) 0 0 dX7_row_7 rfl rfl ?_
  refine G_getf (pc := 8) fl_X7_207 dX7_row_8 mg_40 rfl ?_
  have hb8 := hVS1_2.f32
  refine G_iconst (pc := 11) dX7_row_11 ?_
  refine G_isub (pc := 12) dX7_row_12 ?_
  refine G_callSd (pc := 13) gk_X7_99 dX7_row_13 (c_X7_isWithin (by first | assumption | omega | exact ⟨by omega, by omega⟩ | exact hS _ _ | exact hT _ _) (by first | assumption | omega | exact ⟨by omega, by omega⟩ | exact hS _ _ | exact hT _ _) (by first | assumption | omega | exact ⟨by omega, by omega⟩ | exact hS _ _ | exact hT _ _)) rfl rfl (Nat.le_of_ble_eq_true rfl) ⟨⟨Nat.le_of_ble_eq_true rfl, Nat.le_of_ble_eq_true rfl⟩, Nat.le_of_ble_eq_true rfl, Nat.le_of_ble_eq_true rfl⟩ ?_
  refine G_if_ne_b (pc := 16) 25 dX7_row_16 (by decide) (fun c16 => ?_) (fun c16 => ?_)
  · refine G_iload_n (pc := 25) 2 2 dX7_row_25 rfl rfl ?_
    refine G_iconst (pc := 26) dX7_row_26 ?_
    refine G_iconst (pc := 27) dX7_row_27 ?_
    refine G_callSd (pc := 28) gk_X7_99 dX7_row_28 (c_X7_isWithin (by first | assumption | omega | exact ⟨by omega, by omega⟩ | exact hS _ _ | exact hT _ _) (by first | assumption | omega | exact ⟨by omega, by omega⟩ | exact hS _ _ | exact hT _ _) (by first | assumption | omega | exact ⟨by omega, by omega⟩ | exact hS _ _ | exact hT _ _)) rfl rfl (Nat.le_of_ble_eq_true rfl) ⟨⟨Nat.le_of_ble_eq_true rfl, Nat.le_of_ble_eq_true rfl⟩, Nat.le_of_ble_eq_true rfl, Nat.le_of_ble_eq_true rfl⟩ ?_
    refine G_if_eq_b (pc := 31) 47 dX7_row_31 (by decide) (fun c31 => ?_) (fun c31 => ?_)
    · exfalso
      omega
    · refine G_aload_n (pc := 34) 0 0 dX7_row_34 rfl rfl ?_
      refine G_getf (pc := 35) fl_X7_90 dX7_row_35 mg_40 rfl ?_
      refine G_iload_n (pc := 38) 1 1 dX7_row_38 rfl rfl ?_
      refine G_iconst (pc := 39) dX7_row_39 ?_
      refine G_imul (pc := 40) dX7_row_40 ?_
      refine G_iload_n (pc := 41) 2 2 dX7_row_41 rfl rfl ?_
      refine G_iadd (pc := 42) dX7_row_42 ?_
      refine G_iald (pc := 43) dX7_row_43 mg_73 ⟨by omega, by omega, by omega, by omega⟩ ?_
      refine G_goto (pc := 44) 52 dX7_row_44 (by decide) ?_
      exact G_iret_m (pc := 52) hF dX7_row_52 ⟨Nat.le_of_ble_eq_true rfl, Nat.le_of_ble_eq_true rfl⟩ (by rw [hS1_2]) (by rw [hS1_2])
  · exfalso
    omega
set_option maxHeartbeats 4000000 in
set_option maxRecDepth 100000 in
theorem c_X7_row_x {l : Launch} {Δ : zDl} {ad : zK → Nat} {P : zP} {S : zS} {X : zMem} {Q : zP} {x w : Int} (hV : zWM Q S) (hrx : zR x) (hrw : zR w) (hn : ¬ (0 ≤ x ∧ x < S (40, 0, 0, 0) 32)) : zMn l Δ yX7_row cX7_row 3 (some .int) 9 0 0 [.ref (ad (40, 0, 0, 0)), .int (zI x), .int (zI w)] ad (mm Δ ad P S X) (zD (some (.int (zI 0))) ad (mm Δ ad P (zst S (40, 0, 0, 0) 0 1) X)) := by
  refine zMn_of (by decide) (Nat.le_of_ble_eq_true rfl) (fun Γ hl hΔ hF => ?_)
  subst hl hΔ
  show G Γ _ _ _ RX7 _ _ _ _ _ [(0, .ref (ad (40, 0, 0, 0))), (1, .int (zI x)), (2, .int (zI w))] []
  have hq := hV.q
  have h32 := hV.f32
  refine G_aload_n (pc := 0) 0 0 dX7_row_0 rfl rfl ?_
  refine G_iconst (pc := 1) dX7_row_1 ?_
  refine G_putf (pc := 2) fl_X7_93 fp_X7_0 dX7_row_2 mg_40 (Nat.le_of_ble_eq_true rfl) rfl rfl (mp_40_0 _) ?_
  refine G_name (fun S1_2 hS1_2 => ?_)
  have hVS1_2 : zWM Q S1_2 := by rw [hS1_2]; exact hV.s40_0 (by first | assumption | exact ⟨by omega, by omega⟩)
  have h325 : S1_2 (40, 0, 0, 0) 32 = S (40, 0, 0, 0) 32 := by rw [hS1_2, zst_f _ _ _ (by decide)]
  refine G_iload_n (pc := 5) 1 1 dX7_row_5 rfl rfl ?_
  refine G_iconst (pc := 6) dX7_row_6 ?_
  refine G_aload_n (pc := 7) 0 0 dX7_row_7 rfl rfl ?_
  refine G_getf (pc := 8) fl_X7_207 dX7_row_8 mg_40 rfl ?_
  have hb8 := hVS1_2.f32
  refine G_iconst (pc := 11) dX7_row_11 ?_
  refine G_isub (pc := 12) dX7_row_12 ?_
  refine G_callSd (pc := 13) gk_X7_99 dX7_row_13 (c_X7_isWithin (by first | assumption | omega | exact ⟨by omega, by omega⟩ | exact hS _ _ | exact hT _ _) (by first | assumption | omega | exact ⟨by omega, by omega⟩ | exact hS _ _ | exact hT _ _) (by first | assumption | omega | exact ⟨by omega, by omega⟩ | exact hS _ _ | exact hT _ _)) rfl rfl (Nat.le_of_ble_eq_true rfl) ⟨⟨Nat.le_of_ble_eq_true rfl, Nat.le_of_ble_eq_true rfl⟩, Nat.le_of_ble_eq_true rfl, Nat.le_of_ble_eq_true rfl⟩ ?_
  refine G_if_ne_b (pc := 16) 25 dX7_row_16 (by decide) (fun c16 => ?_) (fun c16 => ?_)
  · exfalso
    omega
  · refine G_aload_n (pc := 19) 0 0 dX7_row_19 rfl rfl ?_
    refine G_iconst (pc := 20) dX7_row_20 ?_
    refine G_callVd (pc := 21) gk_X7_134 dX7_row_21 mg_40 rfl (c_X7_no (Q := Q) (by first | assumption | omega | exact ⟨by omega, by omega⟩ | exact hS _ _ | exact hT _ _) (by first | assumption | omega | exact ⟨by omega, by omega⟩ | exact hS _ _ | exact hT _ _)) rfl rfl (Nat.le_of_ble_eq_true rfl) ⟨⟨Nat.le_of_ble_eq_true rfl, Nat.le_of_ble_eq_true rfl⟩, Nat.le_of_ble_eq_true rfl, Nat.le_of_ble_eq_true rfl⟩ ?_
    refine G_name (fun S2_21 hS2_21 => ?_)
    have hVS2_21 : zWM Q S2_21 := by rw [hS2_21]; exact hVS1_2.s40_0 (by first | assumption | exact ⟨by omega, by omega⟩)
    exact G_iret_m (pc := 24) hF dX7_row_24 ⟨Nat.le_of_ble_eq_true rfl, Nat.le_of_ble_eq_true rfl⟩ (by first | rfl | omega | simp_all) (by rw [hS2_21, hS1_2, zst_zst])
set_option maxHeartbeats 4000000 in
set_option maxRecDepth 100000 in
theorem c_X7_row_y {l : Launch} {Δ : zDl} {ad : zK → Nat} {P : zP} {S : zS} {X : zMem} {Q : zP} {x w : Int} (hV : zWM Q S) (hrw : zR w) (hx : 0 ≤ x ∧ x < S (40, 0, 0, 0) 32) (hn : ¬ (0 ≤ w ∧ w ≤ 4)) : zMn l Δ yX7_row cX7_row 3 (some .int) 9 0 0 [.ref (ad (40, 0, 0, 0)), .int (zI x), .int (zI w)] ad (mm Δ ad P S X) (zD (some (.int (zI 0))) ad (mm Δ ad P (zst S (40, 0, 0, 0) 0 2) X)) := by
  refine zMn_of (by decide) (Nat.le_of_ble_eq_true rfl) (fun Γ hl hΔ hF => ?_)
  subst hl hΔ
  show G Γ _ _ _ RX7 _ _ _ _ _ [(0, .ref (ad (40, 0, 0, 0))), (1, .int (zI x)), (2, .int (zI w))] []
  have hq := hV.q
  have h32 := hV.f32
  refine G_aload_n (pc := 0) 0 0 dX7_row_0 rfl rfl ?_
  refine G_iconst (pc := 1) dX7_row_1 ?_
  refine G_putf (pc := 2) fl_X7_93 fp_X7_0 dX7_row_2 mg_40 (Nat.le_of_ble_eq_true rfl) rfl rfl (mp_40_0 _) ?_
  refine G_name (fun S1_2 hS1_2 => ?_)
  have hVS1_2 : zWM Q S1_2 := by rw [hS1_2]; exact hV.s40_0 (by first | assumption | exact ⟨by omega, by omega⟩)
  have h325 : S1_2 (40, 0, 0, 0) 32 = S (40, 0, 0, 0) 32 := by rw [hS1_2, zst_f _ _ _ (by decide)]
  refine G_iload_n (pc := 5) 1 1 dX7_row_5 rfl rfl ?_
  refine G_iconst (pc := 6) dX7_row_6 ?_
  refine G_aload_n (pc := 7) 0 0 dX7_row_7 rfl rfl ?_
  refine G_getf (pc := 8) fl_X7_207 dX7_row_8 mg_40 rfl ?_
  have hb8 := hVS1_2.f32
  refine G_iconst (pc := 11) dX7_row_11 ?_
  refine G_isub (pc := 12) dX7_row_12 ?_
  refine G_callSd (pc := 13) gk_X7_99 dX7_row_13 (c_X7_isWithin (by first | assumption | omega | exact ⟨by omega, by omega⟩ | exact hS _ _ | exact hT _ _) (by first | assumption | omega | exact ⟨by omega, by omega⟩ | exact hS _ _ | exact hT _ _) (by first | assumption | omega | exact ⟨by omega, by omega⟩ | exact hS _ _ | exact hT _ _)) rfl rfl (Nat.le_of_ble_eq_true rfl) ⟨⟨Nat.le_of_ble_eq_true rfl, Nat.le_of_ble_eq_true rfl⟩, Nat.le_of_ble_eq_true rfl, Nat.le_of_ble_eq_true rfl⟩ ?_
  refine G_if_ne_b (pc := 16) 25 dX7_row_16 (by decide) (fun c16 => ?_) (fun c16 => ?_)
  · refine G_iload_n (pc := 25) 2 2 dX7_row_25 rfl rfl ?_
    refine G_iconst (pc := 26) dX7_row_26 ?_
    refine G_iconst (pc := 27) dX7_row_27 ?_
    refine G_callSd (pc := 28) gk_X7_99 dX7_row_28 (c_X7_isWithin (by first | assumption | omega | exact ⟨by omega, by omega⟩ | exact hS _ _ | exact hT _ _) (by first | assumption | omega | exact ⟨by omega, by omega⟩ | exact hS _ _ | exact hT _ _) (by first | assumption | omega | exact ⟨by omega, by omega⟩ | exact hS _ _ | exact hT _ _)) rfl rfl (Nat.le_of_ble_eq_true rfl) ⟨⟨Nat.le_of_ble_eq_true rfl, Nat.le_of_ble_eq_true rfl⟩, Nat.le_of_ble_eq_true rfl, Nat.le_of_ble_eq_true rfl⟩ ?_
    refine G_if_eq_b (pc := 31) 47 dX7_row_31 (by decide) (fun c31 => ?_) (fun c31 => ?_)
    · refine G_aload_n (pc := 47) 0 0 dX7_row_47 rfl rfl ?_
      refine G_iconst (pc := 48) dX7_row_48 ?_
      refine G_callVd (pc := 49) gk_X7_134 dX7_row_49 mg_40 rfl (c_X7_no (Q := Q) (by first | assumption | omega | exact ⟨by omega, by omega⟩ | exact hS _ _ | exact hT _ _) (by first | assumption | omega | exact ⟨by omega, by omega⟩ | exact hS _ _ | exact hT _ _)) rfl rfl (Nat.le_of_ble_eq_true rfl) ⟨⟨Nat.le_of_ble_eq_true rfl, Nat.le_of_ble_eq_true rfl⟩, Nat.le_of_ble_eq_true rfl, Nat.le_of_ble_eq_true rfl⟩ ?_
      refine G_name (fun S2_49 hS2_49 => ?_)
      have hVS2_49 : zWM Q S2_49 := by rw [hS2_49]; exact hVS1_2.s40_0 (by first | assumption | exact ⟨by omega, by omega⟩)
      exact G_iret_m (pc := 52) hF dX7_row_52 ⟨Nat.le_of_ble_eq_true rfl, Nat.le_of_ble_eq_true rfl⟩ (by first | rfl | omega | simp_all) (by rw [hS2_49, hS1_2, zst_zst])
    · exfalso
      omega
  · exfalso
    omega
set_option maxHeartbeats 4000000 in
set_option maxRecDepth 100000 in
theorem c_X7_wouldTake {l : Launch} {Δ : zDl} {ad : zK → Nat} {P : zP} {S : zS} {X : zMem} {Q : zP} {g r : Int} (hV : zWM Q S) (hg : 0 ≤ g ∧ g < Q 3 0 0) (hr : 0 ≤ r ∧ r < 6) (h61 : Q 61 0 0 = P 61 0 0) : zMn l Δ yX7_wouldTake cX7_wouldTake 3 (some .int) 9 0 0 [.ref (ad (40, 0, 0, 0)), .int (zI g), .int (zI r)] ad (mm Δ ad P S X) (zD (some (.int (zI (mwn Q (zst S (40, 0, 0, 0) 0 0) g r)))) ad (mm Δ ad P (zst S (40, 0, 0, 0) 0 0) X)) := by
  refine zMn_of (by decide) (Nat.le_of_ble_eq_true rfl) (fun Γ hl hΔ hF => ?_)
  subst hl hΔ
  show G Γ _ _ _ RX7 _ _ _ _ _ [(0, .ref (ad (40, 0, 0, 0))), (1, .int (zI g)), (2, .int (zI r))] []
  have hq := hV.q
  have h23 := hV.g23
  refine G_aload_n (pc := 0) 0 0 dX7_wouldTake_0 rfl rfl ?_
  refine G_iconst (pc := 1) dX7_wouldTake_1 ?_
  refine G_putf (pc := 2) fl_X7_93 fp_X7_0 dX7_wouldTake_2 mg_40 (Nat.le_of_ble_eq_true rfl) rfl rfl (mp_40_0 _) ?_
  refine G_name (fun S1_2 hS1_2 => ?_)
  have hVS1_2 : zWM Q S1_2 := by rw [hS1_2]; exact hV.s40_0 (by first | assumption | exact ⟨by omega, by omega⟩)
  have h235 := hVS1_2.g23
  refine G_aload_n (pc := 5) 0 0 dX7_wouldTake_5 rfl rfl ?_
  refine G_iload_n (pc := 6) 1 1 dX7_wouldTake_6 rfl rfl ?_
  refine G_callVd (pc := 7) gk_X7_110 dX7_wouldTake_7 mg_40 rfl (c_X7_isGroup (Q := Q) (by first | assumption | omega | exact ⟨by omega, by omega⟩ | exact hS _ _ | exact hT _ _) (by first | assumption | omega | exact ⟨by omega, by omega⟩ | exact hS _ _ | exact hT _ _)) rfl rfl (Nat.le_of_ble_eq_true rfl) ⟨⟨Nat.le_of_ble_eq_true rfl, Nat.le_of_ble_eq_true rfl⟩, Nat.le_of_ble_eq_true rfl, Nat.le_of_ble_eq_true rfl⟩ ?_
  refine G_if_eq_b (pc := 10) 29 dX7_wouldTake_10 (by decide) (fun c10 => ?_) (fun c10 => ?_)
  · exfalso
    omega
  · refine G_iload_n (pc := 13) 2 2 dX7_wouldTake_13 rfl rfl ?_
    refine G_callSd (pc := 14) gk_X7_191 dX7_wouldTake_14 (c_X7_isReader (by first | assumption | omega | exact ⟨by omega, by omega⟩ | exact hS _ _ | exact hT _ _)) rfl rfl (Nat.le_of_ble_eq_true rfl) ⟨⟨Nat.le_of_ble_eq_true rfl, Nat.le_of_ble_eq_true rfl⟩, Nat.le_of_ble_eq_true rfl, Nat.le_of_ble_eq_true rfl⟩ ?_
    refine G_if_eq_b (pc := 17) 29 dX7_wouldTake_17 (by decide) (fun c17 => ?_) (fun c17 => ?_)
    · exfalso
      omega
    · refine G_aload_n (pc := 20) 0 0 dX7_wouldTake_20 rfl rfl ?_
      refine G_iload_n (pc := 21) 1 1 dX7_wouldTake_21 rfl rfl ?_
      refine G_iload_n (pc := 22) 2 2 dX7_wouldTake_22 rfl rfl ?_
      refine G_callVd (pc := 23) gk_X7_240 dX7_wouldTake_23 mg_40 rfl (c_X7_wouldNow (Q := Q) (by first | assumption | omega | exact ⟨by omega, by omega⟩ | exact hS _ _ | exact hT _ _) (by first | assumption | omega | exact ⟨by omega, by omega⟩ | exact hS _ _ | exact hT _ _) (by first | assumption | omega | exact ⟨by omega, by omega⟩ | exact hS _ _ | exact hT _ _) (by first | assumption | omega | exact ⟨by omega, by omega⟩ | exact hS _ _ | exact hT _ _)) rfl rfl (Nat.le_of_ble_eq_true rfl) ⟨⟨Nat.le_of_ble_eq_true rfl, Nat.le_of_ble_eq_true rfl⟩, Nat.le_of_ble_eq_true rfl, Nat.le_of_ble_eq_true rfl⟩ ?_
      have hb23 := mwn_le (Q := Q) (g := g) (r := r) hVS1_2
      refine G_goto (pc := 26) 34 dX7_wouldTake_26 (by decide) ?_
      exact G_iret_m (pc := 34) hF dX7_wouldTake_34 ⟨Nat.le_of_ble_eq_true rfl, Nat.le_of_ble_eq_true rfl⟩ (by rw [hS1_2]) (by rw [hS1_2])
set_option maxHeartbeats 4000000 in
set_option maxRecDepth 100000 in
theorem c_X7_wouldTake_x {l : Launch} {Δ : zDl} {ad : zK → Nat} {P : zP} {S : zS} {X : zMem} {Q : zP} {g r : Int} (hV : zWM Q S) (h61 : Q 61 0 0 = P 61 0 0) (hrg : zR g) (hrr : zR r) (hn : ¬ ((0 ≤ g ∧ g < Q 3 0 0) ∧ (0 ≤ r ∧ r < 6))) : zMn l Δ yX7_wouldTake cX7_wouldTake 3 (some .int) 9 0 0 [.ref (ad (40, 0, 0, 0)), .int (zI g), .int (zI r)] ad (mm Δ ad P S X) (zD (some (.int (zI 0))) ad (mm Δ ad P (zst S (40, 0, 0, 0) 0 1) X)) := by
  refine zMn_of (by decide) (Nat.le_of_ble_eq_true rfl) (fun Γ hl hΔ hF => ?_)
  subst hl hΔ
  show G Γ _ _ _ RX7 _ _ _ _ _ [(0, .ref (ad (40, 0, 0, 0))), (1, .int (zI g)), (2, .int (zI r))] []
  have hq := hV.q
  have h23 := hV.g23
  refine G_aload_n (pc := 0) 0 0 dX7_wouldTake_0 rfl rfl ?_
  refine G_iconst (pc := 1) dX7_wouldTake_1 ?_
  refine G_putf (pc := 2) fl_X7_93 fp_X7_0 dX7_wouldTake_2 mg_40 (Nat.le_of_ble_eq_true rfl) rfl rfl (mp_40_0 _) ?_
  refine G_name (fun S1_2 hS1_2 => ?_)
  have hVS1_2 : zWM Q S1_2 := by rw [hS1_2]; exact hV.s40_0 (by first | assumption | exact ⟨by omega, by omega⟩)
  have h235 := hVS1_2.g23
  refine G_aload_n (pc := 5) 0 0 dX7_wouldTake_5 rfl rfl ?_
  refine G_iload_n (pc := 6) 1 1 dX7_wouldTake_6 rfl rfl ?_
  refine G_callVd (pc := 7) gk_X7_110 dX7_wouldTake_7 mg_40 rfl (c_X7_isGroup (Q := Q) (by first | assumption | omega | exact ⟨by omega, by omega⟩ | exact hS _ _ | exact hT _ _) (by first | assumption | omega | exact ⟨by omega, by omega⟩ | exact hS _ _ | exact hT _ _)) rfl rfl (Nat.le_of_ble_eq_true rfl) ⟨⟨Nat.le_of_ble_eq_true rfl, Nat.le_of_ble_eq_true rfl⟩, Nat.le_of_ble_eq_true rfl, Nat.le_of_ble_eq_true rfl⟩ ?_
  refine G_if_eq_b (pc := 10) 29 dX7_wouldTake_10 (by decide) (fun c10 => ?_) (fun c10 => ?_)
  · refine G_aload_n (pc := 29) 0 0 dX7_wouldTake_29 rfl rfl ?_
    refine G_iconst (pc := 30) dX7_wouldTake_30 ?_
    refine G_callVd (pc := 31) gk_X7_134 dX7_wouldTake_31 mg_40 rfl (c_X7_no (Q := Q) (by first | assumption | omega | exact ⟨by omega, by omega⟩ | exact hS _ _ | exact hT _ _) (by first | assumption | omega | exact ⟨by omega, by omega⟩ | exact hS _ _ | exact hT _ _)) rfl rfl (Nat.le_of_ble_eq_true rfl) ⟨⟨Nat.le_of_ble_eq_true rfl, Nat.le_of_ble_eq_true rfl⟩, Nat.le_of_ble_eq_true rfl, Nat.le_of_ble_eq_true rfl⟩ ?_
    refine G_name (fun S2_31 hS2_31 => ?_)
    have hVS2_31 : zWM Q S2_31 := by rw [hS2_31]; exact hVS1_2.s40_0 (by first | assumption | exact ⟨by omega, by omega⟩)
    exact G_iret_m (pc := 34) hF dX7_wouldTake_34 ⟨Nat.le_of_ble_eq_true rfl, Nat.le_of_ble_eq_true rfl⟩ (by first | rfl | omega | simp_all) (by rw [hS2_31, hS1_2, zst_zst])
  · refine G_iload_n (pc := 13) 2 2 dX7_wouldTake_13 rfl rfl ?_
    refine G_callSd (pc := 14) gk_X7_191 dX7_wouldTake_14 (c_X7_isReader (by first | assumption | omega | exact ⟨by omega, by omega⟩ | exact hS _ _ | exact hT _ _)) rfl rfl (Nat.le_of_ble_eq_true rfl) ⟨⟨Nat.le_of_ble_eq_true rfl, Nat.le_of_ble_eq_true rfl⟩, Nat.le_of_ble_eq_true rfl, Nat.le_of_ble_eq_true rfl⟩ ?_
    refine G_if_eq_b (pc := 17) 29 dX7_wouldTake_17 (by decide) (fun c17 => ?_) (fun c17 => ?_)
    · refine G_aload_n (pc := 29) 0 0 dX7_wouldTake_29 rfl rfl ?_
      refine G_iconst (pc := 30) dX7_wouldTake_30 ?_
      refine G_callVd (pc := 31) gk_X7_134 dX7_wouldTake_31 mg_40 rfl (c_X7_no (Q := Q) (by first | assumption | omega | exact ⟨by omega, by omega⟩ | exact hS _ _ | exact hT _ _) (by first | assumption | omega | exact ⟨by omega, by omega⟩ | exact hS _ _ | exact hT _ _)) rfl rfl (Nat.le_of_ble_eq_true rfl) ⟨⟨Nat.le_of_ble_eq_true rfl, Nat.le_of_ble_eq_true rfl⟩, Nat.le_of_ble_eq_true rfl, Nat.le_of_ble_eq_true rfl⟩ ?_
      refine G_name (fun S3_31 hS3_31 => ?_)
      have hVS3_31 : zWM Q S3_31 := by rw [hS3_31]; exact hVS1_2.s40_0 (by first | assumption | exact ⟨by omega, by omega⟩)
      exact G_iret_m (pc := 34) hF dX7_wouldTake_34 ⟨Nat.le_of_ble_eq_true rfl, Nat.le_of_ble_eq_true rfl⟩ (by first | rfl | omega | simp_all) (by rw [hS3_31, hS1_2, zst_zst])
    · exfalso
      omega
