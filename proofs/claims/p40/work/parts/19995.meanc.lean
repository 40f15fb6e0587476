set_option maxHeartbeats 4000000 in
set_option maxRecDepth 100000 in
theorem c_X6_meanTries {l : Launch} {Δ : zDl} {ad : zK → Nat} {P : zP} {S : zS} {X : zMem} {g : Int} (hP : zWP P) (hg : 0 ≤ g ∧ g < P 3 0 0) (hW : zWS P S) (hsu : 0 ≤ sm (fun p => zsu P S g p) 0 (P 1 (P 4 g 0) 0) ∧ sm (fun p => zsu P S g p) 0 (P 1 (P 4 g 0) 0) ≤ 240) (hco : 0 ≤ sm (fun p => zco P S g 3 p) 0 (P 1 (P 4 g 0) 0) ∧ sm (fun p => zco P S g 3 p) 0 (P 1 (P 4 g 0) 0) ≤ 80) : zMn l Δ yX6_meanTries cX6_meanTries 4 (some .double) 9 0 0 [.ref (ad (0, 0, 0, 0)), .int (zI g)] ad (mm Δ ad P S X) (zD (some (.double (zmd (sm (fun p => zsu P S g p) 0 (P 1 (P 4 g 0) 0)) (sm (fun p => zco P S g 3 p) 0 (P 1 (P 4 g 0) 0))))) ad (mm Δ ad P S X)) := by
  refine zMn_of (by decide) (Nat.le_of_ble_eq_true rfl) (fun Γ hl hΔ hF => ?_)
  subst hl hΔ
  show G Γ _ _ _ RX6 _ _ _ _ _ [(0, .ref (ad (0, 0, 0, 0))), (1, .int (zI g))] []
  have hS := hW.R
  have hN := hP.n
  have hk := hW.k
  have hl := hW.l
  have hG := hP.g hg
  have hT := hP.t hG
  refine G_aload_n (pc := 0) 0 0 dX6_meanTries_0 rfl rfl ?_
  refine G_iload_n (pc := 1) 1 1 dX6_meanTries_1 rfl rfl ?_
  refine G_callVd (pc := 2) gk_X6_186 dX6_meanTries_2 mg_0 rfl (c_X6_groupAt (by first | assumption | omega | exact ⟨by omega, by omega⟩ | exact hS _ _ | exact hT _ _) (by first | assumption | omega | exact ⟨by omega, by omega⟩ | exact hS _ _ | exact hT _ _)) rfl rfl (Nat.le_of_ble_eq_true rfl) ⟨⟨Nat.le_of_ble_eq_true rfl, Nat.le_of_ble_eq_true rfl⟩, Nat.le_of_ble_eq_true rfl, Nat.le_of_ble_eq_true rfl⟩ ?_
  refine G_astore_n (pc := 5) 2 [(2, .ref (ad (15, g, 0, 0))), (0, .ref (ad (0, 0, 0, 0))), (1, .int (zI g))] dX6_meanTries_5 rfl (by decide) rfl ?_
  refine G_aload_n (pc := 6) 2 0 dX6_meanTries_6 rfl rfl ?_
  refine G_iconst (pc := 7) dX6_meanTries_7 ?_
  refine G_callVd (pc := 8) gk_X6_260 dX6_meanTries_8 (mg_15 (by first | assumption | omega | exact ⟨by omega, by omega⟩ | exact hS _ _ | exact hT _ _)) rfl (c_X0_countOf (by first | assumption | omega | exact ⟨by omega, by omega⟩ | exact hS _ _ | exact hT _ _) (by first | assumption | omega | exact ⟨by omega, by omega⟩ | exact hS _ _ | exact hT _ _) (by first | assumption | omega | exact ⟨by omega, by omega⟩ | exact hS _ _ | exact hT _ _) (by first | assumption | omega | exact ⟨by omega, by omega⟩ | exact hS _ _ | exact hT _ _)) rfl rfl (Nat.le_of_ble_eq_true rfl) ⟨⟨Nat.le_of_ble_eq_true rfl, Nat.le_of_ble_eq_true rfl⟩, Nat.le_of_ble_eq_true rfl, Nat.le_of_ble_eq_true rfl⟩ ?_
  refine G_istore_n (pc := 11) 3 [(3, .int (zI (sm (fun p => zco P S g 3 p) 0 (P 1 (P 4 g 0) 0)))), (2, .ref (ad (15, g, 0, 0))), (0, .ref (ad (0, 0, 0, 0))), (1, .int (zI g))] dX6_meanTries_11 rfl (by decide) rfl ?_
  refine G_iload_n (pc := 12) 3 0 dX6_meanTries_12 rfl rfl ?_
  refine G_if_ne (pc := 13) 20 dX6_meanTries_13 (by decide) (by first | exact hS _ _ | exact hT _ _ | exact ⟨by omega, by omega⟩ | assumption | exact zWM.r (by assumption) _ _ (by decide)) (fun c13 => ?_) (fun c13 => ?_)
  · refine G_aload_n (pc := 20) 2 1 dX6_meanTries_20 rfl rfl ?_
    refine G_callVd (pc := 21) gk_X6_263 dX6_meanTries_21 (mg_15 (by first | assumption | omega | exact ⟨by omega, by omega⟩ | exact hS _ _ | exact hT _ _)) rfl (c_X0_sumOfTriesOfRead (by first | assumption | omega | exact ⟨by omega, by omega⟩ | exact hS _ _ | exact hT _ _) (by first | assumption | omega | exact ⟨by omega, by omega⟩ | exact hS _ _ | exact hT _ _) (by first | assumption | omega | exact ⟨by omega, by omega⟩ | exact hS _ _ | exact hT _ _)) rfl rfl (Nat.le_of_ble_eq_true rfl) ⟨⟨Nat.le_of_ble_eq_true rfl, Nat.le_of_ble_eq_true rfl⟩, Nat.le_of_ble_eq_true rfl, Nat.le_of_ble_eq_true rfl⟩ ?_
    refine G_i2d (pc := 24) dX6_meanTries_24 ?_
    refine G_iload_n (pc := 25) 3 0 dX6_meanTries_25 rfl rfl ?_
    refine G_i2d (pc := 26) dX6_meanTries_26 ?_
    refine G_ddiv (pc := 27) dX6_meanTries_27 (zdv hsu ⟨by omega, hco.2⟩) ?_
    exact G_dret_m (pc := 28) hF dX6_meanTries_28 ⟨Nat.le_of_ble_eq_true rfl, Nat.le_of_ble_eq_true rfl⟩ (by unfold zmd; first | rw [if_pos c13] | rw [if_neg c13]) rfl
  · refine G_dconst0 (pc := 16) dX6_meanTries_16 ?_
    refine G_goto (pc := 17) 28 dX6_meanTries_17 (by decide) ?_
    exact G_dret_m (pc := 28) hF dX6_meanTries_28 ⟨Nat.le_of_ble_eq_true rfl, Nat.le_of_ble_eq_true rfl⟩ (by unfold zmd; first | rw [if_pos c13] | rw [if_neg c13]) rfl
set_option maxHeartbeats 4000000 in
set_option maxRecDepth 100000 in
theorem c_X6_meanTries_x {l : Launch} {Δ : zDl} {ad : zK → Nat} {P : zP} {S : zS} {X : zMem} {g : Int} (hP : zWP P) (hW : zWS P S) (hr : zR g) (hn : ¬ (0 ≤ g ∧ g < P 3 0 0)) (hst : l.stackTraces = false) : zMx l Δ yX6_meanTries cX6_meanTries 4 (some .double) 9 1 6 [.ref (ad (0, 0, 0, 0)), .int (zI g)] ad (mm Δ ad P S X) zF0 (zE "java/lang/IndexOutOfBoundsException" ad (mm Δ ad P S X)) := by
  refine zMx_of hst (by decide) (Nat.le_of_ble_eq_true rfl) (fun Γ hl hΔ hF hX => ?_)
  subst hl hΔ
  show G Γ _ _ _ RX6 _ _ _ _ _ [(0, .ref (ad (0, 0, 0, 0))), (1, .int (zI g))] []
  refine G_aload_n (pc := 0) 0 0 dX6_meanTries_0 rfl rfl ?_
  refine G_iload_n (pc := 1) 1 1 dX6_meanTries_1 rfl rfl ?_
  exact G_callVt (pc := 2) gk_X6_186 dX6_meanTries_2 mg_0 rfl (c_X6_groupAt_x (by first | assumption | omega | exact ⟨by omega, by omega⟩ | exact hS _ _ | exact hT _ _) (by first | assumption | omega | exact ⟨by omega, by omega⟩ | exact hS _ _ | exact hT _ _) (by first | assumption | omega | exact ⟨by omega, by omega⟩ | exact hS _ _ | exact hT _ _) hst) rfl rfl (Nat.le_of_ble_eq_true rfl) ⟨⟨Nat.le_of_ble_eq_true rfl, Nat.le_of_ble_eq_true rfl⟩, Nat.le_of_ble_eq_true rfl, Nat.le_of_ble_eq_true rfl⟩ hX ⟨Nat.le_of_ble_eq_true rfl, Nat.le_of_ble_eq_true rfl⟩ ⟨rfl, rfl, rfl⟩
