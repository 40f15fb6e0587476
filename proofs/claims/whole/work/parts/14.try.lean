set_option maxHeartbeats 4000000 in
set_option maxRecDepth 100000 in
theorem c_X4_isUnderway {l : Launch} {Δ : zDl} {ad : zK → Nat} {P : zP} {S : zS} {X : zMem} {g p o : Int} (hg : 0 ≤ g ∧ g < P 3 0 0) (hp : 0 ≤ p ∧ p < P 1 (P 4 g 0) 0) (ho : 0 ≤ o ∧ o < 80) (hS : ∀ k f, zR (S k f)) : zMn l Δ yX4_isUnderway cX4_isUnderway 2 (some .boolean) 1 0 0 [.ref (ad (18, g, p, 0)), .int (zI o)] ad (mm Δ ad P S X) (zD (some (.int (zI (if S (19, g, p, 0) o = 1 ∨ S (19, g, p, 0) o = 2 then 1 else 0)))) ad (mm Δ ad P S X)) := by
  refine zMn_of (by decide) (Nat.le_of_ble_eq_true rfl) (fun Γ hl hΔ hF => ?_)
  subst hl hΔ
  show G Γ _ _ _ _ _ _ _ _ _ [(0, .ref (ad (18, g, p, 0))), (1, .int (zI o))] []
  refine G_aload_n (pc := 0) 0 0 dX4_isUnderway_0 rfl rfl ?_
  refine G_getf (pc := 1) fl_X4_9 dX4_isUnderway_1 (mg_18 (by first | assumption | omega)) rfl ?_
  refine G_iload_n (pc := 4) 1 1 dX4_isUnderway_4 rfl rfl ?_
  refine G_iald (pc := 5) dX4_isUnderway_5 (mg_19 (by first | assumption | omega)) ⟨by omega, by omega, by omega, by omega⟩ ?_
  refine G_iconst (pc := 6) dX4_isUnderway_6 ?_
  refine G_icmp_eq (pc := 7) 20 dX4_isUnderway_7 (by decide) (by first | exact hS _ _ | exact ⟨by omega, by omega⟩) (by first | exact hS _ _ | exact ⟨by omega, by omega⟩) (fun c7 => ?_) (fun c7 => ?_)
  · refine G_iconst (pc := 20) dX4_isUnderway_20 ?_
    refine G_goto (pc := 21) 25 dX4_isUnderway_21 (by decide) ?_
    exact G_zret_d (pc := 25) hF dX4_isUnderway_25 ⟨Nat.le_of_ble_eq_true rfl, Nat.le_of_ble_eq_true rfl⟩ (by first | exact zb_ite | omega) (by first | exact (if_pos (by first | assumption | omega)).symm | exact (if_neg (by first | assumption | omega)).symm | rfl | omega)
  · refine G_aload_n (pc := 10) 0 0 dX4_isUnderway_10 rfl rfl ?_
    refine G_getf (pc := 11) fl_X4_9 dX4_isUnderway_11 (mg_18 (by first | assumption | omega)) rfl ?_
    refine G_iload_n (pc := 14) 1 1 dX4_isUnderway_14 rfl rfl ?_
    refine G_iald (pc := 15) dX4_isUnderway_15 (mg_19 (by first | assumption | omega)) ⟨by omega, by omega, by omega, by omega⟩ ?_
    refine G_iconst (pc := 16) dX4_isUnderway_16 ?_
    refine G_icmp_ne (pc := 17) 24 dX4_isUnderway_17 (by decide) (by first | exact hS _ _ | exact ⟨by omega, by omega⟩) (by first | exact hS _ _ | exact ⟨by omega, by omega⟩) (fun c17 => ?_) (fun c17 => ?_)
    · refine G_iconst (pc := 24) dX4_isUnderway_24 ?_
      exact G_zret_d (pc := 25) hF dX4_isUnderway_25 ⟨Nat.le_of_ble_eq_true rfl, Nat.le_of_ble_eq_true rfl⟩ (by first | exact zb_ite | omega) (by first | exact (if_pos (by first | assumption | omega)).symm | exact (if_neg (by first | assumption | omega)).symm | rfl | omega)
    · refine G_iconst (pc := 20) dX4_isUnderway_20 ?_
      refine G_goto (pc := 21) 25 dX4_isUnderway_21 (by decide) ?_
      exact G_zret_d (pc := 25) hF dX4_isUnderway_25 ⟨Nat.le_of_ble_eq_true rfl, Nat.le_of_ble_eq_true rfl⟩ (by first | exact zb_ite | omega) (by first | exact (if_pos (by first | assumption | omega)).symm | exact (if_neg (by first | assumption | omega)).symm | rfl | omega)
set_option maxHeartbeats 4000000 in
set_option maxRecDepth 100000 in
theorem c_X4_isThrough {l : Launch} {Δ : zDl} {ad : zK → Nat} {P : zP} {S : zS} {X : zMem} {g p o : Int} (hg : 0 ≤ g ∧ g < P 3 0 0) (hp : 0 ≤ p ∧ p < P 1 (P 4 g 0) 0) (ho : 0 ≤ o ∧ o < 80) (hS : ∀ k f, zR (S k f)) : zMn l Δ yX4_isThrough cX4_isThrough 2 (some .boolean) 1 0 0 [.ref (ad (18, g, p, 0)), .int (zI o)] ad (mm Δ ad P S X) (zD (some (.int (zI (if S (19, g, p, 0) o = 3 ∨ S (19, g, p, 0) o = 4 then 1 else 0)))) ad (mm Δ ad P S X)) := by
  refine zMn_of (by decide) (Nat.le_of_ble_eq_true rfl) (fun Γ hl hΔ hF => ?_)
  subst hl hΔ
  show G Γ _ _ _ _ _ _ _ _ _ [(0, .ref (ad (18, g, p, 0))), (1, .int (zI o))] []
  refine G_aload_n (pc := 0) 0 0 dX4_isThrough_0 rfl rfl ?_
  refine G_getf (pc := 1) fl_X4_9 dX4_isThrough_1 (mg_18 (by first | assumption | omega)) rfl ?_
  refine G_iload_n (pc := 4) 1 1 dX4_isThrough_4 rfl rfl ?_
  refine G_iald (pc := 5) dX4_isThrough_5 (mg_19 (by first | assumption | omega)) ⟨by omega, by omega, by omega, by omega⟩ ?_
  refine G_iconst (pc := 6) dX4_isThrough_6 ?_
  refine G_icmp_eq (pc := 7) 20 dX4_isThrough_7 (by decide) (by first | exact hS _ _ | exact ⟨by omega, by omega⟩) (by first | exact hS _ _ | exact ⟨by omega, by omega⟩) (fun c7 => ?_) (fun c7 => ?_)
  · refine G_iconst (pc := 20) dX4_isThrough_20 ?_
    refine G_goto (pc := 21) 25 dX4_isThrough_21 (by decide) ?_
    exact G_zret_d (pc := 25) hF dX4_isThrough_25 ⟨Nat.le_of_ble_eq_true rfl, Nat.le_of_ble_eq_true rfl⟩ (by first | exact zb_ite | omega) (by first | exact (if_pos (by first | assumption | omega)).symm | exact (if_neg (by first | assumption | omega)).symm | rfl | omega)
  · refine G_aload_n (pc := 10) 0 0 dX4_isThrough_10 rfl rfl ?_
    refine G_getf (pc := 11) fl_X4_9 dX4_isThrough_11 (mg_18 (by first | assumption | omega)) rfl ?_
    refine G_iload_n (pc := 14) 1 1 dX4_isThrough_14 rfl rfl ?_
    refine G_iald (pc := 15) dX4_isThrough_15 (mg_19 (by first | assumption | omega)) ⟨by omega, by omega, by omega, by omega⟩ ?_
    refine G_iconst (pc := 16) dX4_isThrough_16 ?_
    refine G_icmp_ne (pc := 17) 24 dX4_isThrough_17 (by decide) (by first | exact hS _ _ | exact ⟨by omega, by omega⟩) (by first | exact hS _ _ | exact ⟨by omega, by omega⟩) (fun c17 => ?_) (fun c17 => ?_)
    · refine G_iconst (pc := 24) dX4_isThrough_24 ?_
      exact G_zret_d (pc := 25) hF dX4_isThrough_25 ⟨Nat.le_of_ble_eq_true rfl, Nat.le_of_ble_eq_true rfl⟩ (by first | exact zb_ite | omega) (by first | exact (if_pos (by first | assumption | omega)).symm | exact (if_neg (by first | assumption | omega)).symm | rfl | omega)
    · refine G_iconst (pc := 20) dX4_isThrough_20 ?_
      refine G_goto (pc := 21) 25 dX4_isThrough_21 (by decide) ?_
      exact G_zret_d (pc := 25) hF dX4_isThrough_25 ⟨Nat.le_of_ble_eq_true rfl, Nat.le_of_ble_eq_true rfl⟩ (by first | exact zb_ite | omega) (by first | exact (if_pos (by first | assumption | omega)).symm | exact (if_neg (by first | assumption | omega)).symm | rfl | omega)
set_option maxHeartbeats 4000000 in
set_option maxRecDepth 100000 in
theorem c_X4_finish {l : Launch} {Δ : zDl} {ad : zK → Nat} {P : zP} {S : zS} {X : zMem} {g p o : Int} (hg : 0 ≤ g ∧ g < P 3 0 0) (hp : 0 ≤ p ∧ p < P 1 (P 4 g 0) 0) (ho : 0 ≤ o ∧ o < 80) : zMn l Δ yX4_finish cX4_finish 2 none 1 0 0 [.ref (ad (18, g, p, 0)), .int (zI o)] ad (mm Δ ad P S X) (zD none ad (mm Δ ad P (zst S (19, g, p, 0) o 3) X)) := by
  refine zMn_of (by decide) (Nat.le_of_ble_eq_true rfl) (fun Γ hl hΔ hF => ?_)
  subst hl hΔ
  show G Γ _ _ _ _ _ _ _ _ _ [(0, .ref (ad (18, g, p, 0))), (1, .int (zI o))] []
  refine G_aload_n (pc := 0) 0 0 dX4_finish_0 rfl rfl ?_
  refine G_getf (pc := 1) fl_X4_9 dX4_finish_1 (mg_18 (by first | assumption | omega)) rfl ?_
  refine G_iload_n (pc := 4) 1 1 dX4_finish_4 rfl rfl ?_
  refine G_iconst (pc := 5) dX4_finish_5 ?_
  refine G_iast (pc := 6) dX4_finish_6 (mg_19 (by first | assumption | omega)) ⟨by omega, by omega, by omega, by omega⟩ (mp_19 _ _ (by first | assumption | omega)) ?_
  refine G_name (fun S1_6 hS1_6 => ?_)
  exact G_vret_d (pc := 7) hF dX4_finish_7 ⟨Nat.le_of_ble_eq_true rfl, Nat.le_of_ble_eq_true rfl⟩ (by rw [hS1_6])
set_option maxHeartbeats 4000000 in
set_option maxRecDepth 100000 in
theorem c_X4_forget {l : Launch} {Δ : zDl} {ad : zK → Nat} {P : zP} {S : zS} {X : zMem} {g p o : Int} (hg : 0 ≤ g ∧ g < P 3 0 0) (hp : 0 ≤ p ∧ p < P 1 (P 4 g 0) 0) (ho : 0 ≤ o ∧ o < 80) : zMn l Δ yX4_forget cX4_forget 2 none 1 0 0 [.ref (ad (18, g, p, 0)), .int (zI o)] ad (mm Δ ad P S X) (zD none ad (mm Δ ad P (zst (zst S (19, g, p, 0) o 0) (20, g, p, 0) o 0) X)) := by
  refine zMn_of (by decide) (Nat.le_of_ble_eq_true rfl) (fun Γ hl hΔ hF => ?_)
  subst hl hΔ
  show G Γ _ _ _ _ _ _ _ _ _ [(0, .ref (ad (18, g, p, 0))), (1, .int (zI o))] []
  refine G_aload_n (pc := 0) 0 0 dX4_forget_0 rfl rfl ?_
  refine G_getf (pc := 1) fl_X4_9 dX4_forget_1 (mg_18 (by first | assumption | omega)) rfl ?_
  refine G_iload_n (pc := 4) 1 1 dX4_forget_4 rfl rfl ?_
  refine G_iconst (pc := 5) dX4_forget_5 ?_
  refine G_iast (pc := 6) dX4_forget_6 (mg_19 (by first | assumption | omega)) ⟨by omega, by omega, by omega, by omega⟩ (mp_19 _ _ (by first | assumption | omega)) ?_
  refine G_name (fun S1_6 hS1_6 => ?_)
  refine G_aload_n (pc := 7) 0 0 dX4_forget_7 rfl rfl ?_
  refine G_getf (pc := 8) fl_X4_15 dX4_forget_8 (mg_18 (by first | assumption | omega)) rfl ?_
  refine G_iload_n (pc := 11) 1 1 dX4_forget_11 rfl rfl ?_
  refine G_iconst (pc := 12) dX4_forget_12 ?_
  refine G_iast (pc := 13) dX4_forget_13 (mg_20 (by first | assumption | omega)) ⟨by omega, by omega, by omega, by omega⟩ (mp_20 _ _ (by first | assumption | omega)) ?_
  refine G_name (fun S2_13 hS2_13 => ?_)
  exact G_vret_d (pc := 14) hF dX4_forget_14 ⟨Nat.le_of_ble_eq_true rfl, Nat.le_of_ble_eq_true rfl⟩ (by simp only [hS2_13, hS1_6])
