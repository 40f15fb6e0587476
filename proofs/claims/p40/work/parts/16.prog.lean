set_option maxHeartbeats 4000000 in
set_option maxRecDepth 100000 in
theorem c_X4_isUnderway {l : Launch} {Δ : zDl} {ad : zK → Nat} {P : zP} {S : zS} {X : zMem} {g p o : Int} (hg : 0 ≤ g ∧ g < P 3 0 0) (hp : 0 ≤ p ∧ p < P 1 (P 4 g 0) 0) (ho : 0 ≤ o ∧ o < 80) (hS : ∀ k f, zR (S k f)) : zMn l Δ yX4_isUnderway cX4_isUnderway 2 (some .boolean) 1 0 0 [.ref (ad (18, g, p, 0)), .int (zI o)] ad (mm Δ ad P S X) (zD (some (.int (zI (if ju S g p o then 1 else 0)))) ad (mm Δ ad P S X)) := by
  refine zMn_of (by decide) (Nat.le_of_ble_eq_true rfl) (fun Γ hl hΔ hF => ?_)
  subst hl hΔ
  show G Γ _ _ _ RX4 _ _ _ _ _ [(0, .ref (ad (18, g, p, 0))), (1, .int (zI o))] []
  refine G_aload_n (pc := 0) 0 0 dX4_isUnderway_0 rfl rfl ?_
  refine G_getf (pc := 1) fl_X4_9 dX4_isUnderway_1 (mg_18 (by first | assumption | omega | exact ⟨by omega, by omega⟩ | exact hS _ _ | exact hT _ _)) rfl ?_
  refine G_iload_n (pc := 4) 1 1 dX4_isUnderway_4 rfl rfl ?_
  refine G_iald (pc := 5) dX4_isUnderway_5 (mg_19 (by first | assumption | omega | exact ⟨by omega, by omega⟩ | exact hS _ _ | exact hT _ _)) ⟨by omega, by omega, by omega, by omega⟩ ?_
  refine G_iconst (pc := 6) dX4_isUnderway_6 ?_
  refine G_icmp_eq (pc := 7) 20 dX4_isUnderway_7 (by decide) (by first | exact hS _ _ | exact hT _ _ | exact ⟨by omega, by omega⟩ | assumption) (by first | exact hS _ _ | exact hT _ _ | exact ⟨by omega, by omega⟩ | assumption) (fun c7 => ?_) (fun c7 => ?_)
  · refine G_iconst (pc := 20) dX4_isUnderway_20 ?_
    refine G_goto (pc := 21) 25 dX4_isUnderway_21 (by decide) ?_
    exact G_zret_d (pc := 25) hF dX4_isUnderway_25 ⟨Nat.le_of_ble_eq_true rfl, Nat.le_of_ble_eq_true rfl⟩ (by first | exact zb_ite | omega) (by first | exact (if_pos (by first | assumption | omega)).symm | exact (if_neg (by first | assumption | omega)).symm | rfl | omega)
  · refine G_aload_n (pc := 10) 0 0 dX4_isUnderway_10 rfl rfl ?_
    refine G_getf (pc := 11) fl_X4_9 dX4_isUnderway_11 (mg_18 (by first | assumption | omega | exact ⟨by omega, by omega⟩ | exact hS _ _ | exact hT _ _)) rfl ?_
    refine G_iload_n (pc := 14) 1 1 dX4_isUnderway_14 rfl rfl ?_
    refine G_iald (pc := 15) dX4_isUnderway_15 (mg_19 (by first | assumption | omega | exact ⟨by omega, by omega⟩ | exact hS _ _ | exact hT _ _)) ⟨by omega, by omega, by omega, by omega⟩ ?_
    refine G_iconst (pc := 16) dX4_isUnderway_16 ?_
    refine G_icmp_ne (pc := 17) 24 dX4_isUnderway_17 (by decide) (by first | exact hS _ _ | exact hT _ _ | exact ⟨by omega, by omega⟩ | assumption) (by first | exact hS _ _ | exact hT _ _ | exact ⟨by omega, by omega⟩ | assumption) (fun c17 => ?_) (fun c17 => ?_)
    · refine G_iconst (pc := 24) dX4_isUnderway_24 ?_
      exact G_zret_d (pc := 25) hF dX4_isUnderway_25 ⟨Nat.le_of_ble_eq_true rfl, Nat.le_of_ble_eq_true rfl⟩ (by first | exact zb_ite | omega) (by first | exact (if_pos (by first | assumption | omega)).symm | exact (if_neg (by first | assumption | omega)).symm | rfl | omega)
    · refine G_iconst (pc := 20) dX4_isUnderway_20 ?_
      refine G_goto (pc := 21) 25 dX4_isUnderway_21 (by decide) ?_
      exact G_zret_d (pc := 25) hF dX4_isUnderway_25 ⟨Nat.le_of_ble_eq_true rfl, Nat.le_of_ble_eq_true rfl⟩ (by first | exact zb_ite | omega) (by first | exact (if_pos (by first | assumption | omega)).symm | exact (if_neg (by first | assumption | omega)).symm | rfl | omega)
set_option maxHeartbeats 4000000 in
set_option maxRecDepth 100000 in
theorem c_X4_isThrough {l : Launch} {Δ : zDl} {ad : zK → Nat} {P : zP} {S : zS} {X : zMem} {g p o : Int} (hg : 0 ≤ g ∧ g < P 3 0 0) (hp : 0 ≤ p ∧ p < P 1 (P 4 g 0) 0) (ho : 0 ≤ o ∧ o < 80) (hS : ∀ k f, zR (S k f)) : zMn l Δ yX4_isThrough cX4_isThrough 2 (some .boolean) 1 0 0 [.ref (ad (18, g, p, 0)), .int (zI o)] ad (mm Δ ad P S X) (zD (some (.int (zI (if jt S g p o then 1 else 0)))) ad (mm Δ ad P S X)) := by
  refine zMn_of (by decide) (Nat.le_of_ble_eq_true rfl) (fun Γ hl hΔ hF => ?_)
  subst hl hΔ
  show G Γ _ _ _ RX4 _ _ _ _ _ [(0, .ref (ad (18, g, p, 0))), (1, .int (zI o))] []
  refine G_aload_n (pc := 0) 0 0 dX4_isThrough_0 rfl rfl ?_
  refine G_getf (pc := 1) fl_X4_9 dX4_isThrough_1 (mg_18 (by first | assumption | omega | exact ⟨by omega, by omega⟩ | exact hS _ _ | exact hT _ _)) rfl ?_
  refine G_iload_n (pc := 4) 1 1 dX4_isThrough_4 rfl rfl ?_
  refine G_iald (pc := 5) dX4_isThrough_5 (mg_19 (by first | assumption | omega | exact ⟨by omega, by omega⟩ | exact hS _ _ | exact hT _ _)) ⟨by omega, by omega, by omega, by omega⟩ ?_
  refine G_iconst (pc := 6) dX4_isThrough_6 ?_
  refine G_icmp_eq (pc := 7) 20 dX4_isThrough_7 (by decide) (by first | exact hS _ _ | exact hT _ _ | exact ⟨by omega, by omega⟩ | assumption) (by first | exact hS _ _ | exact hT _ _ | exact ⟨by omega, by omega⟩ | assumption) (fun c7 => ?_) (fun c7 => ?_)
  · refine G_iconst (pc := 20) dX4_isThrough_20 ?_
    refine G_goto (pc := 21) 25 dX4_isThrough_21 (by decide) ?_
    exact G_zret_d (pc := 25) hF dX4_isThrough_25 ⟨Nat.le_of_ble_eq_true rfl, Nat.le_of_ble_eq_true rfl⟩ (by first | exact zb_ite | omega) (by first | exact (if_pos (by first | assumption | omega)).symm | exact (if_neg (by first | assumption | omega)).symm | rfl | omega)
  · refine G_aload_n (pc := 10) 0 0 dX4_isThrough_10 rfl rfl ?_
    refine G_getf (pc := 11) fl_X4_9 dX4_isThrough_11 (mg_18 (by first | assumption | omega | exact ⟨by omega, by omega⟩ | exact hS _ _ | exact hT _ _)) rfl ?_
    refine G_iload_n (pc := 14) 1 1 dX4_isThrough_14 rfl rfl ?_
    refine G_iald (pc := 15) dX4_isThrough_15 (mg_19 (by first | assumption | omega | exact ⟨by omega, by omega⟩ | exact hS _ _ | exact hT _ _)) ⟨by omega, by omega, by omega, by omega⟩ ?_
    refine G_iconst (pc := 16) dX4_isThrough_16 ?_
    refine G_icmp_ne (pc := 17) 24 dX4_isThrough_17 (by decide) (by first | exact hS _ _ | exact hT _ _ | exact ⟨by omega, by omega⟩ | assumption) (by first | exact hS _ _ | exact hT _ _ | exact ⟨by omega, by omega⟩ | assumption) (fun c17 => ?_) (fun c17 => ?_)
    · refine G_iconst (pc := 24) dX4_isThrough_24 ?_
      exact G_zret_d (pc := 25) hF dX4_isThrough_25 ⟨Nat.le_of_ble_eq_true rfl, Nat.le_of_ble_eq_true rfl⟩ (by first | exact zb_ite | omega) (by first | exact (if_pos (by first | assumption | omega)).symm | exact (if_neg (by first | assumption | omega)).symm | rfl | omega)
    · refine G_iconst (pc := 20) dX4_isThrough_20 ?_
      refine G_goto (pc := 21) 25 dX4_isThrough_21 (by decide) ?_
      exact G_zret_d (pc := 25) hF dX4_isThrough_25 ⟨Nat.le_of_ble_eq_true rfl, Nat.le_of_ble_eq_true rfl⟩ (by first | exact zb_ite | omega) (by first | exact (if_pos (by first | assumption | omega)).symm | exact (if_neg (by first | assumption | omega)).symm | rfl | omega)
set_option maxHeartbeats 4000000 in
set_option maxRecDepth 100000 in
theorem c_X4_finish {l : Launch} {Δ : zDl} {ad : zK → Nat} {P : zP} {S : zS} {X : zMem} {g p o : Int} (hg : 0 ≤ g ∧ g < P 3 0 0) (hp : 0 ≤ p ∧ p < P 1 (P 4 g 0) 0) (ho : 0 ≤ o ∧ o < 80) : zMn l Δ yX4_finish cX4_finish 2 none 1 0 0 [.ref (ad (18, g, p, 0)), .int (zI o)] ad (mm Δ ad P S X) (zD none ad (mm Δ ad P (zst S (19, g, p, 0) o 3) X)) := by
  refine zMn_of (by decide) (Nat.le_of_ble_eq_true rfl) (fun Γ hl hΔ hF => ?_)
  subst hl hΔ
  show G Γ _ _ _ RX4 _ _ _ _ _ [(0, .ref (ad (18, g, p, 0))), (1, .int (zI o))] []
  refine G_aload_n (pc := 0) 0 0 dX4_finish_0 rfl rfl ?_
  refine G_getf (pc := 1) fl_X4_9 dX4_finish_1 (mg_18 (by first | assumption | omega | exact ⟨by omega, by omega⟩ | exact hS _ _ | exact hT _ _)) rfl ?_
  refine G_iload_n (pc := 4) 1 1 dX4_finish_4 rfl rfl ?_
  refine G_iconst (pc := 5) dX4_finish_5 ?_
  refine G_iast (pc := 6) dX4_finish_6 (mg_19 (by first | assumption | omega | exact ⟨by omega, by omega⟩ | exact hS _ _ | exact hT _ _)) ⟨by omega, by omega, by omega, by omega⟩ (mp_19 _ _ (by first | assumption | omega | exact ⟨by omega, by omega⟩ | exact hS _ _ | exact hT _ _)) ?_
  refine G_name (fun S1_6 hS1_6 => ?_)
  exact G_vret_d (pc := 7) hF dX4_finish_7 ⟨Nat.le_of_ble_eq_true rfl, Nat.le_of_ble_eq_true rfl⟩ (by rw [hS1_6])
set_option maxHeartbeats 4000000 in
set_option maxRecDepth 100000 in
theorem c_X4_forget {l : Launch} {Δ : zDl} {ad : zK → Nat} {P : zP} {S : zS} {X : zMem} {g p o : Int} (hg : 0 ≤ g ∧ g < P 3 0 0) (hp : 0 ≤ p ∧ p < P 1 (P 4 g 0) 0) (ho : 0 ≤ o ∧ o < 80) : zMn l Δ yX4_forget cX4_forget 2 none 1 0 0 [.ref (ad (18, g, p, 0)), .int (zI o)] ad (mm Δ ad P S X) (zD none ad (mm Δ ad P (zfg S g p o) X)) := by
  refine zMn_of (by decide) (Nat.le_of_ble_eq_true rfl) (fun Γ hl hΔ hF => ?_)
  subst hl hΔ
  show G Γ _ _ _ RX4 _ _ _ _ _ [(0, .ref (ad (18, g, p, 0))), (1, .int (zI o))] []
  refine G_aload_n (pc := 0) 0 0 dX4_forget_0 rfl rfl ?_
  refine G_getf (pc := 1) fl_X4_9 dX4_forget_1 (mg_18 (by first | assumption | omega | exact ⟨by omega, by omega⟩ | exact hS _ _ | exact hT _ _)) rfl ?_
  refine G_iload_n (pc := 4) 1 1 dX4_forget_4 rfl rfl ?_
  refine G_iconst (pc := 5) dX4_forget_5 ?_
  refine G_iast (pc := 6) dX4_forget_6 (mg_19 (by first | assumption | omega | exact ⟨by omega, by omega⟩ | exact hS _ _ | exact hT _ _)) ⟨by omega, by omega, by omega, by omega⟩ (mp_19 _ _ (by first | assumption | omega | exact ⟨by omega, by omega⟩ | exact hS _ _ | exact hT _ _)) ?_
  refine G_name (fun S1_6 hS1_6 => ?_)
  refine G_aload_n (pc := 7) 0 0 dX4_forget_7 rfl rfl ?_
  refine G_getf (pc := 8) fl_X4_15 dX4_forget_8 (mg_18 (by first | assumption | omega | exact ⟨by omega, by omega⟩ | exact hS _ _ | exact hT _ _)) rfl ?_
  refine G_iload_n (pc := 11) 1 1 dX4_forget_11 rfl rfl ?_
  refine G_iconst (pc := 12) dX4_forget_12 ?_
  refine G_iast (pc := 13) dX4_forget_13 (mg_20 (by first | assumption | omega | exact ⟨by omega, by omega⟩ | exact hS _ _ | exact hT _ _)) ⟨by omega, by omega, by omega, by omega⟩ (mp_20 _ _ (by first | assumption | omega | exact ⟨by omega, by omega⟩ | exact hS _ _ | exact hT _ _)) ?_
  refine G_name (fun S2_13 hS2_13 => ?_)
  exact G_vret_d (pc := 14) hF dX4_forget_14 ⟨Nat.le_of_ble_eq_true rfl, Nat.le_of_ble_eq_true rfl⟩ (by rw [hS2_13, hS1_6]; rfl)
set_option maxHeartbeats 4000000 in
set_option maxRecDepth 100000 in
theorem c_X4_isOut {l : Launch} {Δ : zDl} {ad : zK → Nat} {P : zP} {S : zS} {X : zMem} {g p x : Int} (hP : zWP P) (hg : 0 ≤ g ∧ g < P 3 0 0) (hp : 0 ≤ p ∧ p < P 1 (P 4 g 0) 0) (hx : zR x) (hS : ∀ k f, zR (S k f)) : zMn l Δ yX4_isOut cX4_isOut 2 (some .boolean) 4 0 0 [.ref (ad (18, g, p, 0)), .int (zI x)] ad (mm Δ ad P S X) (zD (some (.int (zI (if (0 ≤ x ∧ x < P 2 (P 4 g 0) p) ∧ S (19, g, p, 0) x = 1 then 1 else 0)))) ad (mm Δ ad P S X)) := by
  refine zMn_of (by decide) (Nat.le_of_ble_eq_true rfl) (fun Γ hl hΔ hF => ?_)
  subst hl hΔ
  show G Γ _ _ _ RX4 _ _ _ _ _ [(0, .ref (ad (18, g, p, 0))), (1, .int (zI x))] []
  have hG := hP.g hg
  have hM := hP.m hG hp
  refine G_aload_n (pc := 0) 0 0 dX4_isOut_0 rfl rfl ?_
  refine G_getf (pc := 1) fl_X4_25 dX4_isOut_1 (mg_18 (by first | assumption | omega | exact ⟨by omega, by omega⟩ | exact hS _ _ | exact hT _ _)) rfl ?_
  refine G_iload_n (pc := 4) 1 1 dX4_isOut_4 rfl rfl ?_
  refine G_callVd (pc := 5) gk_X4_40 dX4_isOut_5 (mg_11 (by first | assumption | omega | exact ⟨by omega, by omega⟩ | exact hS _ _ | exact hT _ _)) rfl (c_X3_has (by first | assumption | omega | exact ⟨by omega, by omega⟩ | exact hS _ _ | exact hT _ _) (by first | assumption | omega | exact ⟨by omega, by omega⟩ | exact hS _ _ | exact hT _ _) (by first | assumption | omega | exact ⟨by omega, by omega⟩ | exact hS _ _ | exact hT _ _) (by first | assumption | omega | exact ⟨by omega, by omega⟩ | exact hS _ _ | exact hT _ _)) rfl rfl (Nat.le_of_ble_eq_true rfl) ⟨⟨Nat.le_of_ble_eq_true rfl, Nat.le_of_ble_eq_true rfl⟩, Nat.le_of_ble_eq_true rfl, Nat.le_of_ble_eq_true rfl⟩ ?_
  refine G_if_eq_b (pc := 8) 25 dX4_isOut_8 (by decide) (fun c8 => ?_) (fun c8 => ?_)
  · refine G_iconst (pc := 25) dX4_isOut_25 ?_
    exact G_zret_d (pc := 26) hF dX4_isOut_26 ⟨Nat.le_of_ble_eq_true rfl, Nat.le_of_ble_eq_true rfl⟩ (by first | exact zb_ite | omega) (by first | exact (if_pos (by first | assumption | omega)).symm | exact (if_neg (by first | assumption | omega)).symm | rfl | omega)
  · refine G_aload_n (pc := 11) 0 0 dX4_isOut_11 rfl rfl ?_
    refine G_getf (pc := 12) fl_X4_9 dX4_isOut_12 (mg_18 (by first | assumption | omega | exact ⟨by omega, by omega⟩ | exact hS _ _ | exact hT _ _)) rfl ?_
    refine G_iload_n (pc := 15) 1 1 dX4_isOut_15 rfl rfl ?_
    refine G_iald (pc := 16) dX4_isOut_16 (mg_19 (by first | assumption | omega | exact ⟨by omega, by omega⟩ | exact hS _ _ | exact hT _ _)) ⟨by omega, by omega, by omega, by omega⟩ ?_
    refine G_iconst (pc := 17) dX4_isOut_17 ?_
    refine G_icmp_ne (pc := 18) 25 dX4_isOut_18 (by decide) (by first | exact hS _ _ | exact hT _ _ | exact ⟨by omega, by omega⟩ | assumption) (by first | exact hS _ _ | exact hT _ _ | exact ⟨by omega, by omega⟩ | assumption) (fun c18 => ?_) (fun c18 => ?_)
    · refine G_iconst (pc := 25) dX4_isOut_25 ?_
      exact G_zret_d (pc := 26) hF dX4_isOut_26 ⟨Nat.le_of_ble_eq_true rfl, Nat.le_of_ble_eq_true rfl⟩ (by first | exact zb_ite | omega) (by first | exact (if_pos (by first | assumption | omega)).symm | exact (if_neg (by first | assumption | omega)).symm | rfl | omega)
    · refine G_iconst (pc := 21) dX4_isOut_21 ?_
      refine G_goto (pc := 22) 26 dX4_isOut_22 (by decide) ?_
      exact G_zret_d (pc := 26) hF dX4_isOut_26 ⟨Nat.le_of_ble_eq_true rfl, Nat.le_of_ble_eq_true rfl⟩ (by first | exact zb_ite | omega) (by first | exact (if_pos (by first | assumption | omega)).symm | exact (if_neg (by first | assumption | omega)).symm | rfl | omega)
set_option maxHeartbeats 4000000 in
set_option maxRecDepth 100000 in
theorem c_X4_isBehind {l : Launch} {Δ : zDl} {ad : zK → Nat} {P : zP} {S : zS} {X : zMem} {g p o : Int} (hP : zWP P) (hg : 0 ≤ g ∧ g < P 3 0 0) (hp : 0 ≤ p ∧ p < P 1 (P 4 g 0) 0) (ho : 0 ≤ o ∧ o < P 2 (P 4 g 0) p) (hS : ∀ k f, zR (S k f)) : zMn l Δ yX4_isBehind cX4_isBehind 3 (some .boolean) 5 0 0 [.ref (ad (18, g, p, 0)), .int (zI o)] ad (mm Δ ad P S X) (zD (some (.int (zI (if jb P S g p o then 1 else 0)))) ad (mm Δ ad P S X)) := by
  refine zMn_of (by decide) (Nat.le_of_ble_eq_true rfl) (fun Γ hl hΔ hF => ?_)
  subst hl hΔ
  show G Γ _ _ _ RX4 _ _ _ _ _ [(0, .ref (ad (18, g, p, 0))), (1, .int (zI o))] []
  have hG := hP.g hg
  have hM := hP.m hG hp
  refine G_aload_n (pc := 0) 0 0 dX4_isBehind_0 rfl rfl ?_
  refine G_getf (pc := 1) fl_X4_25 dX4_isBehind_1 (mg_18 (by first | assumption | omega | exact ⟨by omega, by omega⟩ | exact hS _ _ | exact hT _ _)) rfl ?_
  refine G_iload_n (pc := 4) 1 1 dX4_isBehind_4 rfl rfl ?_
  refine G_callVd (pc := 5) gk_X4_51 dX4_isBehind_5 (mg_11 (by first | assumption | omega | exact ⟨by omega, by omega⟩ | exact hS _ _ | exact hT _ _)) rfl (c_X3_at (by first | assumption | omega | exact ⟨by omega, by omega⟩ | exact hS _ _ | exact hT _ _) (by first | assumption | omega | exact ⟨by omega, by omega⟩ | exact hS _ _ | exact hT _ _) (by first | assumption | omega | exact ⟨by omega, by omega⟩ | exact hS _ _ | exact hT _ _) (by first | assumption | omega | exact ⟨by omega, by omega⟩ | exact hS _ _ | exact hT _ _)) rfl rfl (Nat.le_of_ble_eq_true rfl) ⟨⟨Nat.le_of_ble_eq_true rfl, Nat.le_of_ble_eq_true rfl⟩, Nat.le_of_ble_eq_true rfl, Nat.le_of_ble_eq_true rfl⟩ ?_
  refine G_astore_n (pc := 8) 2 [(2, .ref (ad (14, (P 4 g 0), p, o))), (0, .ref (ad (18, g, p, 0))), (1, .int (zI o))] dX4_isBehind_8 rfl (by decide) rfl ?_
  refine G_aload_n (pc := 9) 2 0 dX4_isBehind_9 rfl rfl ?_
  refine G_getf (pc := 10) fl_X4_68 dX4_isBehind_10 (mg_14 (by first | assumption | omega | exact ⟨by omega, by omega⟩ | exact hS _ _ | exact hT _ _)) rfl ?_
  refine G_if_ne (pc := 13) 32 dX4_isBehind_13 (by decide) (by first | exact hS _ _ | exact hT _ _ | exact ⟨by omega, by omega⟩ | assumption) (fun c13 => ?_) (fun c13 => ?_)
  · refine G_iconst (pc := 32) dX4_isBehind_32 ?_
    refine G_goto (pc := 33) 37 dX4_isBehind_33 (by decide) ?_
    exact G_zret_d (pc := 37) hF dX4_isBehind_37 ⟨Nat.le_of_ble_eq_true rfl, Nat.le_of_ble_eq_true rfl⟩ (by first | exact zb_ite | omega) (by first | exact (if_pos (by first | assumption | omega)).symm | exact (if_neg (by first | assumption | omega)).symm | rfl | omega)
  · refine G_aload_n (pc := 16) 2 0 dX4_isBehind_16 rfl rfl ?_
    refine G_getf (pc := 17) fl_X4_81 dX4_isBehind_17 (mg_14 (by first | assumption | omega | exact ⟨by omega, by omega⟩ | exact hS _ _ | exact hT _ _)) rfl ?_
    refine G_iconst (pc := 20) dX4_isBehind_20 ?_
    refine G_icmp_eq (pc := 21) 32 dX4_isBehind_21 (by decide) (by first | exact hS _ _ | exact hT _ _ | exact ⟨by omega, by omega⟩ | assumption) (by first | exact hS _ _ | exact hT _ _ | exact ⟨by omega, by omega⟩ | assumption) (fun c21 => ?_) (fun c21 => ?_)
    · refine G_iconst (pc := 32) dX4_isBehind_32 ?_
      refine G_goto (pc := 33) 37 dX4_isBehind_33 (by decide) ?_
      exact G_zret_d (pc := 37) hF dX4_isBehind_37 ⟨Nat.le_of_ble_eq_true rfl, Nat.le_of_ble_eq_true rfl⟩ (by first | exact zb_ite | omega) (by first | exact (if_pos (by first | assumption | omega)).symm | exact (if_neg (by first | assumption | omega)).symm | rfl | omega)
    · refine G_aload_n (pc := 24) 0 1 dX4_isBehind_24 rfl rfl ?_
      refine G_iload_n (pc := 25) 1 2 dX4_isBehind_25 rfl rfl ?_
      refine G_callVd (pc := 26) gk_X4_84 dX4_isBehind_26 (mg_18 (by first | assumption | omega | exact ⟨by omega, by omega⟩ | exact hS _ _ | exact hT _ _)) rfl (c_X4_isThrough (by first | assumption | omega | exact ⟨by omega, by omega⟩ | exact hS _ _ | exact hT _ _) (by first | assumption | omega | exact ⟨by omega, by omega⟩ | exact hS _ _ | exact hT _ _) (by first | assumption | omega | exact ⟨by omega, by omega⟩ | exact hS _ _ | exact hT _ _) (by first | assumption | omega | exact ⟨by omega, by omega⟩ | exact hS _ _ | exact hT _ _)) rfl rfl (Nat.le_of_ble_eq_true rfl) ⟨⟨Nat.le_of_ble_eq_true rfl, Nat.le_of_ble_eq_true rfl⟩, Nat.le_of_ble_eq_true rfl, Nat.le_of_ble_eq_true rfl⟩ ?_
      refine G_if_eq_b (pc := 29) 36 dX4_isBehind_29 (by decide) (fun c29 => ?_) (fun c29 => ?_)
      · refine G_iconst (pc := 36) dX4_isBehind_36 ?_
        exact G_zret_d (pc := 37) hF dX4_isBehind_37 ⟨Nat.le_of_ble_eq_true rfl, Nat.le_of_ble_eq_true rfl⟩ (by first | exact zb_ite | omega) (by first | exact (if_pos (by first | assumption | omega)).symm | exact (if_neg (by first | assumption | omega)).symm | rfl | omega)
      · refine G_iconst (pc := 32) dX4_isBehind_32 ?_
        refine G_goto (pc := 33) 37 dX4_isBehind_33 (by decide) ?_
        exact G_zret_d (pc := 37) hF dX4_isBehind_37 ⟨Nat.le_of_ble_eq_true rfl, Nat.le_of_ble_eq_true rfl⟩ (by first | exact zb_ite | omega) (by first | exact (if_pos (by first | assumption | omega)).symm | exact (if_neg (by first | assumption | omega)).symm | rfl | omega)
set_option maxHeartbeats 4000000 in
set_option maxRecDepth 100000 in
theorem c_X4_give {l : Launch} {Δ : zDl} {ad : zK → Nat} {P : zP} {S : zS} {X : zMem} {g p o x : Int} (hg : 0 ≤ g ∧ g < P 3 0 0) (hp : 0 ≤ p ∧ p < P 1 (P 4 g 0) 0) (ho : 0 ≤ o ∧ o < 80) (hS : ∀ k f, zR (S k f)) : zMn l Δ yX4_give cX4_give 3 none 1 0 0 [.ref (ad (18, g, p, 0)), .int (zI o), .int (zI x)] ad (mm Δ ad P S X) (zD none ad (mm Δ ad P (zgv S g p o x) X)) := by
  refine zMn_of (by decide) (Nat.le_of_ble_eq_true rfl) (fun Γ hl hΔ hF => ?_)
  subst hl hΔ
  show G Γ _ _ _ RX4 _ _ _ _ _ [(0, .ref (ad (18, g, p, 0))), (1, .int (zI o)), (2, .int (zI x))] []
  refine G_aload_n (pc := 0) 0 0 dX4_give_0 rfl rfl ?_
  refine G_getf (pc := 1) fl_X4_9 dX4_give_1 (mg_18 (by first | assumption | omega | exact ⟨by omega, by omega⟩ | exact hS _ _ | exact hT _ _)) rfl ?_
  refine G_iload_n (pc := 4) 1 1 dX4_give_4 rfl rfl ?_
  refine G_iald (pc := 5) dX4_give_5 (mg_19 (by first | assumption | omega | exact ⟨by omega, by omega⟩ | exact hS _ _ | exact hT _ _)) ⟨by omega, by omega, by omega, by omega⟩ ?_
  refine G_if_ne (pc := 6) 16 dX4_give_6 (by decide) (by first | exact hS _ _ | exact hT _ _ | exact ⟨by omega, by omega⟩ | assumption) (fun c6 => ?_) (fun c6 => ?_)
  · refine G_aload_n (pc := 16) 0 0 dX4_give_16 rfl rfl ?_
    refine G_getf (pc := 17) fl_X4_9 dX4_give_17 (mg_18 (by first | assumption | omega | exact ⟨by omega, by omega⟩ | exact hS _ _ | exact hT _ _)) rfl ?_
    refine G_iload_n (pc := 20) 1 1 dX4_give_20 rfl rfl ?_
    refine G_iconst (pc := 21) dX4_give_21 ?_
    refine G_iast (pc := 22) dX4_give_22 (mg_19 (by first | assumption | omega | exact ⟨by omega, by omega⟩ | exact hS _ _ | exact hT _ _)) ⟨by omega, by omega, by omega, by omega⟩ (mp_19 _ _ (by first | assumption | omega | exact ⟨by omega, by omega⟩ | exact hS _ _ | exact hT _ _)) ?_
    refine G_name (fun S1_22 hS1_22 => ?_)
    refine G_aload_n (pc := 23) 0 0 dX4_give_23 rfl rfl ?_
    refine G_getf (pc := 24) fl_X4_15 dX4_give_24 (mg_18 (by first | assumption | omega | exact ⟨by omega, by omega⟩ | exact hS _ _ | exact hT _ _)) rfl ?_
    refine G_iload_n (pc := 27) 1 1 dX4_give_27 rfl rfl ?_
    refine G_dup2 (pc := 28) dX4_give_28 rfl rfl ?_
    refine G_iald (pc := 29) dX4_give_29 (mg_20 (by first | assumption | omega | exact ⟨by omega, by omega⟩ | exact hS _ _ | exact hT _ _)) ⟨by omega, by omega, by omega, by omega⟩ ?_
    refine G_iconst (pc := 30) dX4_give_30 ?_
    refine G_iadd (pc := 31) dX4_give_31 ?_
    refine G_iast (pc := 32) dX4_give_32 (mg_20 (by first | assumption | omega | exact ⟨by omega, by omega⟩ | exact hS _ _ | exact hT _ _)) ⟨by omega, by omega, by omega, by omega⟩ (mp_20 _ _ (by first | assumption | omega | exact ⟨by omega, by omega⟩ | exact hS _ _ | exact hT _ _)) ?_
    refine G_name (fun S2_32 hS2_32 => ?_)
    refine G_aload_n (pc := 33) 0 0 dX4_give_33 rfl rfl ?_
    refine G_getf (pc := 34) fl_X4_18 dX4_give_34 (mg_18 (by first | assumption | omega | exact ⟨by omega, by omega⟩ | exact hS _ _ | exact hT _ _)) rfl ?_
    refine G_iload_n (pc := 37) 1 1 dX4_give_37 rfl rfl ?_
    refine G_iload_n (pc := 38) 2 2 dX4_give_38 rfl rfl ?_
    refine G_iast (pc := 39) dX4_give_39 (mg_21 (by first | assumption | omega | exact ⟨by omega, by omega⟩ | exact hS _ _ | exact hT _ _)) ⟨by omega, by omega, by omega, by omega⟩ (mp_21 _ _ (by first | assumption | omega | exact ⟨by omega, by omega⟩ | exact hS _ _ | exact hT _ _)) ?_
    refine G_name (fun S3_39 hS3_39 => ?_)
    exact G_vret_d (pc := 40) hF dX4_give_40 ⟨Nat.le_of_ble_eq_true rfl, Nat.le_of_ble_eq_true rfl⟩ (by first | rw [show S3_39 = zgv S g p o x by rw [hS3_39, hS2_32, hS1_22]; unfold zgv; rw [show zg0 S g p o = S from if_neg c6, zst_k _ _ _ _ (by simp)]] | rw [show S7_39 = zgv S g p o x by rw [hS7_39, hS6_32, hS5_22, hS4_13]; unfold zgv; rw [show zg0 S g p o = zst S (18, g, p, 0) 6 (o + 1) from if_pos c6, zst_k _ _ _ _ (by simp), zst_k _ _ _ _ (by simp)]])
  · refine G_aload_n (pc := 9) 0 0 dX4_give_9 rfl rfl ?_
    refine G_iload_n (pc := 10) 1 1 dX4_give_10 rfl rfl ?_
    refine G_iconst (pc := 11) dX4_give_11 ?_
    refine G_iadd (pc := 12) dX4_give_12 ?_
    refine G_putf (pc := 13) fl_X4_37 fp_X4_6 dX4_give_13 (mg_18 (by first | assumption | omega | exact ⟨by omega, by omega⟩ | exact hS _ _ | exact hT _ _)) (Nat.le_of_ble_eq_true rfl) rfl rfl (mp_18_6 _ (by first | assumption | omega | exact ⟨by omega, by omega⟩ | exact hS _ _ | exact hT _ _)) ?_
    refine G_name (fun S4_13 hS4_13 => ?_)
    refine G_aload_n (pc := 16) 0 0 dX4_give_16 rfl rfl ?_
    refine G_getf (pc := 17) fl_X4_9 dX4_give_17 (mg_18 (by first | assumption | omega | exact ⟨by omega, by omega⟩ | exact hS _ _ | exact hT _ _)) rfl ?_
    refine G_iload_n (pc := 20) 1 1 dX4_give_20 rfl rfl ?_
    refine G_iconst (pc := 21) dX4_give_21 ?_
    refine G_iast (pc := 22) dX4_give_22 (mg_19 (by first | assumption | omega | exact ⟨by omega, by omega⟩ | exact hS _ _ | exact hT _ _)) ⟨by omega, by omega, by omega, by omega⟩ (mp_19 _ _ (by first | assumption | omega | exact ⟨by omega, by omega⟩ | exact hS _ _ | exact hT _ _)) ?_
    refine G_name (fun S5_22 hS5_22 => ?_)
    refine G_aload_n (pc := 23) 0 0 dX4_give_23 rfl rfl ?_
    refine G_getf (pc := 24) fl_X4_15 dX4_give_24 (mg_18 (by first | assumption | omega | exact ⟨by omega, by omega⟩ | exact hS _ _ | exact hT _ _)) rfl ?_
    refine G_iload_n (pc := 27) 1 1 dX4_give_27 rfl rfl ?_
    refine G_dup2 (pc := 28) dX4_give_28 rfl rfl ?_
    refine G_iald (pc := 29) dX4_give_29 (mg_20 (by first | assumption | omega | exact ⟨by omega, by omega⟩ | exact hS _ _ | exact hT _ _)) ⟨by omega, by omega, by omega, by omega⟩ ?_
    refine G_iconst (pc := 30) dX4_give_30 ?_
    refine G_iadd (pc := 31) dX4_give_31 ?_
    refine G_iast (pc := 32) dX4_give_32 (mg_20 (by first | assumption | omega | exact ⟨by omega, by omega⟩ | exact hS _ _ | exact hT _ _)) ⟨by omega, by omega, by omega, by omega⟩ (mp_20 _ _ (by first | assumption | omega | exact ⟨by omega, by omega⟩ | exact hS _ _ | exact hT _ _)) ?_
    refine G_name (fun S6_32 hS6_32 => ?_)
    refine G_aload_n (pc := 33) 0 0 dX4_give_33 rfl rfl ?_
    refine G_getf (pc := 34) fl_X4_18 dX4_give_34 (mg_18 (by first | assumption | omega | exact ⟨by omega, by omega⟩ | exact hS _ _ | exact hT _ _)) rfl ?_
    refine G_iload_n (pc := 37) 1 1 dX4_give_37 rfl rfl ?_
    refine G_iload_n (pc := 38) 2 2 dX4_give_38 rfl rfl ?_
    refine G_iast (pc := 39) dX4_give_39 (mg_21 (by first | assumption | omega | exact ⟨by omega, by omega⟩ | exact hS _ _ | exact hT _ _)) ⟨by omega, by omega, by omega, by omega⟩ (mp_21 _ _ (by first | assumption | omega | exact ⟨by omega, by omega⟩ | exact hS _ _ | exact hT _ _)) ?_
    refine G_name (fun S7_39 hS7_39 => ?_)
    exact G_vret_d (pc := 40) hF dX4_give_40 ⟨Nat.le_of_ble_eq_true rfl, Nat.le_of_ble_eq_true rfl⟩ (by first | rw [show S3_39 = zgv S g p o x by rw [hS3_39, hS2_32, hS1_22]; unfold zgv; rw [show zg0 S g p o = S from if_neg c6, zst_k _ _ _ _ (by simp)]] | rw [show S7_39 = zgv S g p o x by rw [hS7_39, hS6_32, hS5_22, hS4_13]; unfold zgv; rw [show zg0 S g p o = zst S (18, g, p, 0) 6 (o + 1) from if_pos c6, zst_k _ _ _ _ (by simp), zst_k _ _ _ _ (by simp)]])
set_option maxHeartbeats 4000000 in
set_option maxRecDepth 100000 in
theorem c_X4_countOf {l : Launch} {Δ : zDl} {ad : zK → Nat} {P : zP} {S : zS} {X : zMem} {g p x : Int} (hP : zWP P) (hg : 0 ≤ g ∧ g < P 3 0 0) (hp : 0 ≤ p ∧ p < P 1 (P 4 g 0) 0) (hx : zR x) (hS : ∀ k f, zR (S k f)) : zMn l Δ yX4_countOf cX4_countOf 4 (some .int) 3 0 0 [.ref (ad (18, g, p, 0)), .int (zI x)] ad (mm Δ ad P S X) (zD (some (.int (zI (sm (fun o => if S (19, g, p, 0) o = x then 1 else 0) 0 (P 2 (P 4 g 0) p))))) ad (mm Δ ad P S X)) := by
  refine zMn_of (by decide) (Nat.le_of_ble_eq_true rfl) (fun Γ hl hΔ hF => ?_)
  subst hl hΔ
  show G Γ _ _ _ RX4 _ _ _ _ _ [(0, .ref (ad (18, g, p, 0))), (1, .int (zI x))] []
  have hG := hP.g hg
  have hM := hP.m hG hp
  refine G_iconst (pc := 0) dX4_countOf_0 ?_
  refine G_istore_ne (pc := 1) 2 (fun zw => [(2, .int (zI zw)), (0, .ref (ad (18, g, p, 0))), (1, .int (zI x))]) dX4_countOf_1 rfl (by decide) (fun _ => rfl) (fun v1 e1 => ?_)
  refine G_iconst (pc := 2) dX4_countOf_2 ?_
  refine G_istore_ne (pc := 3) 3 (fun zw => [(3, .int (zI zw)), (2, .int (zI v1)), (0, .ref (ad (18, g, p, 0))), (1, .int (zI x))]) dX4_countOf_3 rfl (by decide) (fun _ => rfl) (fun v3 e3 => ?_)
  have L4 : ∀ (n : Nat) (m : Int) (o : Int), ((0 ≤ o ∧ o ≤ P 2 (P 4 g 0) p) ∧ m + sm (fun o => if S (19, g, p, 0) o = x then 1 else 0) o (P 2 (P 4 g 0) p) = sm (fun o => if S (19, g, p, 0) o = x then 1 else 0) 0 (P 2 (P 4 g 0) p)) → (P 2 (P 4 g 0) p - o).toNat < n → G Γ (zRm 3 0 0) cX4_countOf 4 RX4 ad (mm (z_d Γ) ad P S X) 0 0 4 [(0, .ref (ad (18, g, p, 0))), (1, .int (zI x)), (2, .int (zI m)), (3, .int (zI o))] [] := by
    intro n
    induction n with
    | zero => intro m o _ hn; omega
    | succ n ih4 =>
      intro m o hi4 hn4
      refine G_iload_n (pc := 4) 3 3 dX4_countOf_4 rfl rfl ?_
      refine G_aload_n (pc := 5) 0 0 dX4_countOf_5 rfl rfl ?_
      refine G_getf (pc := 6) fl_X4_25 dX4_countOf_6 (mg_18 (by first | assumption | omega | exact ⟨by omega, by omega⟩ | exact hS _ _ | exact hT _ _)) rfl ?_
      refine G_callVd (pc := 9) gk_X4_44 dX4_countOf_9 (mg_11 (by first | assumption | omega | exact ⟨by omega, by omega⟩ | exact hS _ _ | exact hT _ _)) rfl (c_X3_size (by first | assumption | omega | exact ⟨by omega, by omega⟩ | exact hS _ _ | exact hT _ _) (by first | assumption | omega | exact ⟨by omega, by omega⟩ | exact hS _ _ | exact hT _ _)) rfl rfl (Nat.le_of_ble_eq_true rfl) ⟨⟨Nat.le_of_ble_eq_true rfl, Nat.le_of_ble_eq_true rfl⟩, Nat.le_of_ble_eq_true rfl, Nat.le_of_ble_eq_true rfl⟩ ?_
      refine G_icmp_ge (pc := 12) 34 dX4_countOf_12 (by decide) (by first | exact hS _ _ | exact hT _ _ | exact ⟨by omega, by omega⟩ | assumption) (by first | exact hS _ _ | exact hT _ _ | exact ⟨by omega, by omega⟩ | assumption) (fun c12 => ?_) (fun c12 => ?_)
      · refine G_iload_n (pc := 34) 2 2 dX4_countOf_34 rfl rfl ?_
        exact G_iret_d (pc := 35) hF dX4_countOf_35 ⟨Nat.le_of_ble_eq_true rfl, Nat.le_of_ble_eq_true rfl⟩ (by rw [← hi4.2, sm_end (by omega)]; omega)
      · refine G_aload_n (pc := 15) 0 0 dX4_countOf_15 rfl rfl ?_
        refine G_getf (pc := 16) fl_X4_9 dX4_countOf_16 (mg_18 (by first | assumption | omega | exact ⟨by omega, by omega⟩ | exact hS _ _ | exact hT _ _)) rfl ?_
        refine G_iload_n (pc := 19) 3 3 dX4_countOf_19 rfl rfl ?_
        refine G_iald (pc := 20) dX4_countOf_20 (mg_19 (by first | assumption | omega | exact ⟨by omega, by omega⟩ | exact hS _ _ | exact hT _ _)) ⟨by omega, by omega, by omega, by omega⟩ ?_
        refine G_iload_n (pc := 21) 1 1 dX4_countOf_21 rfl rfl ?_
        refine G_icmp_ne (pc := 22) 28 dX4_countOf_22 (by decide) (by first | exact hS _ _ | exact hT _ _ | exact ⟨by omega, by omega⟩ | assumption) (by first | exact hS _ _ | exact hT _ _ | exact ⟨by omega, by omega⟩ | assumption) (fun c22 => ?_) (fun c22 => ?_)
        · refine G_iinc_e (pc := 28) 3 (fun zw => [(3, .int (zI zw)), (0, .ref (ad (18, g, p, 0))), (1, .int (zI x)), (2, .int (zI m))]) dX4_countOf_28 rfl (by decide) (fun _ => rfl) (fun v28 e28 => ?_)
          refine G_goto (pc := 31) 4 dX4_countOf_31 (by decide) ?_
          refine G_perm (lv' := [(0, .ref (ad (18, g, p, 0))), (1, .int (zI x)), (2, .int (zI m)), (3, .int (zI v28))]) [1, 2, 3, 0] rfl ?_
          exact ih4 m v28  ⟨by omega, by rw [← hi4.2, sm_step (a := o) (n := P 2 (P 4 g 0) p) (by omega), e28]; first | (rw [if_pos c22]; omega) | (rw [if_neg c22]; omega)⟩ (by omega)
        · refine G_iinc_e (pc := 25) 2 (fun zw => [(2, .int (zI zw)), (0, .ref (ad (18, g, p, 0))), (1, .int (zI x)), (3, .int (zI o))]) dX4_countOf_25 rfl (by decide) (fun _ => rfl) (fun v25 e25 => ?_)
          refine G_iinc_e (pc := 28) 3 (fun zw => [(3, .int (zI zw)), (2, .int (zI v25)), (0, .ref (ad (18, g, p, 0))), (1, .int (zI x))]) dX4_countOf_28 rfl (by decide) (fun _ => rfl) (fun v28 e28 => ?_)
          refine G_goto (pc := 31) 4 dX4_countOf_31 (by decide) ?_
          refine G_perm (lv' := [(0, .ref (ad (18, g, p, 0))), (1, .int (zI x)), (2, .int (zI v25)), (3, .int (zI v28))]) [2, 3, 1, 0] rfl ?_
          exact ih4 v25 v28  ⟨by omega, by rw [← hi4.2, sm_step (a := o) (n := P 2 (P 4 g 0) p) (by omega), e28]; first | (rw [if_pos c22]; omega) | (rw [if_neg c22]; omega)⟩ (by omega)
  refine G_perm (lv' := [(0, .ref (ad (18, g, p, 0))), (1, .int (zI x)), (2, .int (zI v1)), (3, .int (zI v3))]) [2, 3, 1, 0] rfl ?_
  exact L4 _ v1 v3  ⟨by omega, by subst e1 e3; exact Int.zero_add _⟩ (Nat.lt_succ_self _)
set_option maxHeartbeats 4000000 in
set_option maxRecDepth 100000 in
theorem c_X4_sumOfTriesOfRead {l : Launch} {Δ : zDl} {ad : zK → Nat} {P : zP} {S : zS} {X : zMem} {g p : Int} (hP : zWP P) (hg : 0 ≤ g ∧ g < P 3 0 0) (hp : 0 ≤ p ∧ p < P 1 (P 4 g 0) 0) (hS : ∀ k f, zR (S k f)) : zMn l Δ yX4_sumOfTriesOfRead cX4_sumOfTriesOfRead 3 (some .int) 3 0 0 [.ref (ad (18, g, p, 0))] ad (mm Δ ad P S X) (zD (some (.int (zI (sm (fun o => if S (19, g, p, 0) o = 3 then S (20, g, p, 0) o else 0) 0 (P 2 (P 4 g 0) p))))) ad (mm Δ ad P S X)) := by
  refine zMn_of (by decide) (Nat.le_of_ble_eq_true rfl) (fun Γ hl hΔ hF => ?_)
  subst hl hΔ
  show G Γ _ _ _ RX4 _ _ _ _ _ [(0, .ref (ad (18, g, p, 0)))] []
  have hG := hP.g hg
  have hM := hP.m hG hp
  refine G_iconst (pc := 0) dX4_sumOfTriesOfRead_0 ?_
  refine G_istore_ne (pc := 1) 1 (fun zw => [(1, .int (zI zw)), (0, .ref (ad (18, g, p, 0)))]) dX4_sumOfTriesOfRead_1 rfl (by decide) (fun _ => rfl) (fun v1 e1 => ?_)
  refine G_iconst (pc := 2) dX4_sumOfTriesOfRead_2 ?_
  refine G_istore_ne (pc := 3) 2 (fun zw => [(2, .int (zI zw)), (1, .int (zI v1)), (0, .ref (ad (18, g, p, 0)))]) dX4_sumOfTriesOfRead_3 rfl (by decide) (fun _ => rfl) (fun v3 e3 => ?_)
  have L4 : ∀ (n : Nat) (m : Int) (o : Int), ((0 ≤ o ∧ o ≤ P 2 (P 4 g 0) p) ∧ m + sm (fun o => if S (19, g, p, 0) o = 3 then S (20, g, p, 0) o else 0) o (P 2 (P 4 g 0) p) = sm (fun o => if S (19, g, p, 0) o = 3 then S (20, g, p, 0) o else 0) 0 (P 2 (P 4 g 0) p)) → (P 2 (P 4 g 0) p - o).toNat < n → G Γ (zRm 3 0 0) cX4_sumOfTriesOfRead 3 RX4 ad (mm (z_d Γ) ad P S X) 0 0 4 [(0, .ref (ad (18, g, p, 0))), (1, .int (zI m)), (2, .int (zI o))] [] := by
    intro n
    induction n with
    | zero => intro m o _ hn; omega
    | succ n ih4 =>
      intro m o hi4 hn4
      refine G_iload_n (pc := 4) 2 2 dX4_sumOfTriesOfRead_4 rfl rfl ?_
      refine G_aload_n (pc := 5) 0 0 dX4_sumOfTriesOfRead_5 rfl rfl ?_
      refine G_getf (pc := 6) fl_X4_25 dX4_sumOfTriesOfRead_6 (mg_18 (by first | assumption | omega | exact ⟨by omega, by omega⟩ | exact hS _ _ | exact hT _ _)) rfl ?_
      refine G_callVd (pc := 9) gk_X4_44 dX4_sumOfTriesOfRead_9 (mg_11 (by first | assumption | omega | exact ⟨by omega, by omega⟩ | exact hS _ _ | exact hT _ _)) rfl (c_X3_size (by first | assumption | omega | exact ⟨by omega, by omega⟩ | exact hS _ _ | exact hT _ _) (by first | assumption | omega | exact ⟨by omega, by omega⟩ | exact hS _ _ | exact hT _ _)) rfl rfl (Nat.le_of_ble_eq_true rfl) ⟨⟨Nat.le_of_ble_eq_true rfl, Nat.le_of_ble_eq_true rfl⟩, Nat.le_of_ble_eq_true rfl, Nat.le_of_ble_eq_true rfl⟩ ?_
      refine G_icmp_ge (pc := 12) 40 dX4_sumOfTriesOfRead_12 (by decide) (by first | exact hS _ _ | exact hT _ _ | exact ⟨by omega, by omega⟩ | assumption) (by first | exact hS _ _ | exact hT _ _ | exact ⟨by omega, by omega⟩ | assumption) (fun c12 => ?_) (fun c12 => ?_)
      · refine G_iload_n (pc := 40) 1 1 dX4_sumOfTriesOfRead_40 rfl rfl ?_
        exact G_iret_d (pc := 41) hF dX4_sumOfTriesOfRead_41 ⟨Nat.le_of_ble_eq_true rfl, Nat.le_of_ble_eq_true rfl⟩ (by rw [← hi4.2, sm_end (by omega)]; omega)
      · refine G_aload_n (pc := 15) 0 0 dX4_sumOfTriesOfRead_15 rfl rfl ?_
        refine G_getf (pc := 16) fl_X4_9 dX4_sumOfTriesOfRead_16 (mg_18 (by first | assumption | omega | exact ⟨by omega, by omega⟩ | exact hS _ _ | exact hT _ _)) rfl ?_
        refine G_iload_n (pc := 19) 2 2 dX4_sumOfTriesOfRead_19 rfl rfl ?_
        refine G_iald (pc := 20) dX4_sumOfTriesOfRead_20 (mg_19 (by first | assumption | omega | exact ⟨by omega, by omega⟩ | exact hS _ _ | exact hT _ _)) ⟨by omega, by omega, by omega, by omega⟩ ?_
        refine G_iconst (pc := 21) dX4_sumOfTriesOfRead_21 ?_
        refine G_icmp_ne (pc := 22) 34 dX4_sumOfTriesOfRead_22 (by decide) (by first | exact hS _ _ | exact hT _ _ | exact ⟨by omega, by omega⟩ | assumption) (by first | exact hS _ _ | exact hT _ _ | exact ⟨by omega, by omega⟩ | assumption) (fun c22 => ?_) (fun c22 => ?_)
        · refine G_iinc_e (pc := 34) 2 (fun zw => [(2, .int (zI zw)), (0, .ref (ad (18, g, p, 0))), (1, .int (zI m))]) dX4_sumOfTriesOfRead_34 rfl (by decide) (fun _ => rfl) (fun v34 e34 => ?_)
          refine G_goto (pc := 37) 4 dX4_sumOfTriesOfRead_37 (by decide) ?_
          refine G_perm (lv' := [(0, .ref (ad (18, g, p, 0))), (1, .int (zI m)), (2, .int (zI v34))]) [1, 2, 0] rfl ?_
          exact ih4 m v34  ⟨by omega, by rw [← hi4.2, sm_step (a := o) (n := P 2 (P 4 g 0) p) (by omega), e34]; first | (rw [if_pos c22]; omega) | (rw [if_neg c22]; omega)⟩ (by omega)
        · refine G_iload_n (pc := 25) 1 1 dX4_sumOfTriesOfRead_25 rfl rfl ?_
          refine G_aload_n (pc := 26) 0 0 dX4_sumOfTriesOfRead_26 rfl rfl ?_
          refine G_getf (pc := 27) fl_X4_15 dX4_sumOfTriesOfRead_27 (mg_18 (by first | assumption | omega | exact ⟨by omega, by omega⟩ | exact hS _ _ | exact hT _ _)) rfl ?_
          refine G_iload_n (pc := 30) 2 2 dX4_sumOfTriesOfRead_30 rfl rfl ?_
          refine G_iald (pc := 31) dX4_sumOfTriesOfRead_31 (mg_20 (by first | assumption | omega | exact ⟨by omega, by omega⟩ | exact hS _ _ | exact hT _ _)) ⟨by omega, by omega, by omega, by omega⟩ ?_
          refine G_iadd (pc := 32) dX4_sumOfTriesOfRead_32 ?_
          refine G_istore_ne (pc := 33) 1 (fun zw => [(1, .int (zI zw)), (0, .ref (ad (18, g, p, 0))), (2, .int (zI o))]) dX4_sumOfTriesOfRead_33 rfl (by decide) (fun _ => rfl) (fun v33 e33 => ?_)
          refine G_iinc_e (pc := 34) 2 (fun zw => [(2, .int (zI zw)), (1, .int (zI v33)), (0, .ref (ad (18, g, p, 0)))]) dX4_sumOfTriesOfRead_34 rfl (by decide) (fun _ => rfl) (fun v34 e34 => ?_)
          refine G_goto (pc := 37) 4 dX4_sumOfTriesOfRead_37 (by decide) ?_
          refine G_perm (lv' := [(0, .ref (ad (18, g, p, 0))), (1, .int (zI v33)), (2, .int (zI v34))]) [2, 1, 0] rfl ?_
          exact ih4 v33 v34  ⟨by omega, by rw [← hi4.2, sm_step (a := o) (n := P 2 (P 4 g 0) p) (by omega), e34]; first | (rw [if_pos c22]; omega) | (rw [if_neg c22]; omega)⟩ (by omega)
  refine G_perm (lv' := [(0, .ref (ad (18, g, p, 0))), (1, .int (zI v1)), (2, .int (zI v3))]) [2, 1, 0] rfl ?_
  exact L4 _ v1 v3  ⟨by omega, by subst e1 e3; exact Int.zero_add _⟩ (Nat.lt_succ_self _)
set_option maxHeartbeats 4000000 in
set_option maxRecDepth 100000 in
theorem c_X4_countUnread {l : Launch} {Δ : zDl} {ad : zK → Nat} {P : zP} {S : zS} {X : zMem} {g p : Int} (hP : zWP P) (hg : 0 ≤ g ∧ g < P 3 0 0) (hp : 0 ≤ p ∧ p < P 1 (P 4 g 0) 0) (hW : zWS P S) : zMn l Δ yX4_countUnread cX4_countUnread 4 (some .int) 6 0 0 [.ref (ad (18, g, p, 0))] ad (mm Δ ad P S X) (zD (some (.int (zI (sm (fun o => if zkp S (P 4 g 0) p o ∧ ¬ jt S g p o then 1 else 0) (S (18, g, p, 0) 5) (zse P S (P 4 g 0) p))))) ad (mm Δ ad P S X)) := by
  refine zMn_of (by decide) (Nat.le_of_ble_eq_true rfl) (fun Γ hl hΔ hF => ?_)
  subst hl hΔ
  show G Γ _ _ _ RX4 _ _ _ _ _ [(0, .ref (ad (18, g, p, 0)))] []
  have hG := hP.g hg
  have hM := hP.m hG hp
  have hN := hP.t hG
  have hS := hW.R
  have hW5 := hW.m hg hp
  have hE := fi_le (Q := fun o => S (14, P 4 g 0, p, o) 4 = 2) (a := 0) (n := P 2 (P 4 g 0) p) hM.1
  have hE : 0 ≤ zse P S (P 4 g 0) p ∧ zse P S (P 4 g 0) p ≤ P 2 (P 4 g 0) p := hE
  refine G_aload_n (pc := 0) 0 0 dX4_countUnread_0 rfl rfl ?_
  refine G_getf (pc := 1) fl_X4_25 dX4_countUnread_1 (mg_18 (by first | assumption | omega | exact ⟨by omega, by omega⟩ | exact hS _ _ | exact hT _ _)) rfl ?_
  refine G_callVd (pc := 4) gk_X4_48 dX4_countUnread_4 (mg_11 (by first | assumption | omega | exact ⟨by omega, by omega⟩ | exact hS _ _ | exact hT _ _)) rfl (c_X3_stableEnd (by first | assumption | omega | exact ⟨by omega, by omega⟩ | exact hS _ _ | exact hT _ _) (by first | assumption | omega | exact ⟨by omega, by omega⟩ | exact hS _ _ | exact hT _ _) (by first | assumption | omega | exact ⟨by omega, by omega⟩ | exact hS _ _ | exact hT _ _) (by first | assumption | omega | exact ⟨by omega, by omega⟩ | exact hS _ _ | exact hT _ _)) rfl rfl (Nat.le_of_ble_eq_true rfl) ⟨⟨Nat.le_of_ble_eq_true rfl, Nat.le_of_ble_eq_true rfl⟩, Nat.le_of_ble_eq_true rfl, Nat.le_of_ble_eq_true rfl⟩ ?_
  refine G_istore_ne (pc := 7) 1 (fun zw => [(1, .int (zI zw)), (0, .ref (ad (18, g, p, 0)))]) dX4_countUnread_7 rfl (by decide) (fun _ => rfl) (fun v7 e7 => ?_)
  refine G_iconst (pc := 8) dX4_countUnread_8 ?_
  refine G_istore_ne (pc := 9) 2 (fun zw => [(2, .int (zI zw)), (1, .int (zI v7)), (0, .ref (ad (18, g, p, 0)))]) dX4_countUnread_9 rfl (by decide) (fun _ => rfl) (fun v9 e9 => ?_)
  refine G_aload_n (pc := 10) 0 2 dX4_countUnread_10 rfl rfl ?_
  refine G_getf (pc := 11) fl_X4_34 dX4_countUnread_11 (mg_18 (by first | assumption | omega | exact ⟨by omega, by omega⟩ | exact hS _ _ | exact hT _ _)) rfl ?_
  refine G_istore_ne (pc := 14) 3 (fun zw => [(3, .int (zI zw)), (2, .int (zI v9)), (1, .int (zI v7)), (0, .ref (ad (18, g, p, 0)))]) dX4_countUnread_14 rfl (by decide) (fun _ => rfl) (fun v14 e14 => ?_)
  have L15 : ∀ (n : Nat) (w : Int) (m : Int) (o : Int), ((w = zse P S (P 4 g 0) p ∧ 0 ≤ o ∧ o ≤ P 2 (P 4 g 0) p) ∧ m + sm (fun o => if zkp S (P 4 g 0) p o ∧ ¬ jt S g p o then 1 else 0) o w = sm (fun o => if zkp S (P 4 g 0) p o ∧ ¬ jt S g p o then 1 else 0) (S (18, g, p, 0) 5) (zse P S (P 4 g 0) p)) → (w - o).toNat < n → G Γ (zRm 6 0 0) cX4_countUnread 4 RX4 ad (mm (z_d Γ) ad P S X) 0 0 15 [(0, .ref (ad (18, g, p, 0))), (1, .int (zI w)), (2, .int (zI m)), (3, .int (zI o))] [] := by
    intro n
    induction n with
    | zero => intro w m o _ hn; omega
    | succ n ih15 =>
      intro w m o hi15 hn15
      obtain ⟨hi15a, hi15b⟩ := hi15
      refine G_iload_n (pc := 15) 3 3 dX4_countUnread_15 rfl rfl ?_
      refine G_iload_n (pc := 16) 1 1 dX4_countUnread_16 rfl rfl ?_
      refine G_icmp_ge (pc := 17) 51 dX4_countUnread_17 (by decide) (by first | exact hS _ _ | exact hT _ _ | exact ⟨by omega, by omega⟩ | assumption) (by first | exact hS _ _ | exact hT _ _ | exact ⟨by omega, by omega⟩ | assumption) (fun c17 => ?_) (fun c17 => ?_)
      · refine G_iload_n (pc := 51) 2 2 dX4_countUnread_51 rfl rfl ?_
        exact G_iret_d (pc := 52) hF dX4_countUnread_52 ⟨Nat.le_of_ble_eq_true rfl, Nat.le_of_ble_eq_true rfl⟩ (by rw [← hi15b, sm_end (by omega)]; omega)
      · refine G_aload_n (pc := 20) 0 0 dX4_countUnread_20 rfl rfl ?_
        refine G_getf (pc := 21) fl_X4_25 dX4_countUnread_21 (mg_18 (by first | assumption | omega | exact ⟨by omega, by omega⟩ | exact hS _ _ | exact hT _ _)) rfl ?_
        refine G_iload_n (pc := 24) 3 3 dX4_countUnread_24 rfl rfl ?_
        refine G_callVd (pc := 25) gk_X4_51 dX4_countUnread_25 (mg_11 (by first | assumption | omega | exact ⟨by omega, by omega⟩ | exact hS _ _ | exact hT _ _)) rfl (c_X3_at (by first | assumption | omega | exact ⟨by omega, by omega⟩ | exact hS _ _ | exact hT _ _) (by first | assumption | omega | exact ⟨by omega, by omega⟩ | exact hS _ _ | exact hT _ _) (by first | assumption | omega | exact ⟨by omega, by omega⟩ | exact hS _ _ | exact hT _ _) (by first | assumption | omega | exact ⟨by omega, by omega⟩ | exact hS _ _ | exact hT _ _)) rfl rfl (Nat.le_of_ble_eq_true rfl) ⟨⟨Nat.le_of_ble_eq_true rfl, Nat.le_of_ble_eq_true rfl⟩, Nat.le_of_ble_eq_true rfl, Nat.le_of_ble_eq_true rfl⟩ ?_
        refine G_callVd (pc := 28) gk_X4_55 dX4_countUnread_28 (mg_14 (by first | assumption | omega | exact ⟨by omega, by omega⟩ | exact hS _ _ | exact hT _ _)) rfl (c_X2_isKept (by first | assumption | omega | exact ⟨by omega, by omega⟩ | exact hS _ _ | exact hT _ _) (by first | assumption | omega | exact ⟨by omega, by omega⟩ | exact hS _ _ | exact hT _ _) (by first | assumption | omega | exact ⟨by omega, by omega⟩ | exact hS _ _ | exact hT _ _) (by first | assumption | omega | exact ⟨by omega, by omega⟩ | exact hS _ _ | exact hT _ _)) rfl rfl (Nat.le_of_ble_eq_true rfl) ⟨⟨Nat.le_of_ble_eq_true rfl, Nat.le_of_ble_eq_true rfl⟩, Nat.le_of_ble_eq_true rfl, Nat.le_of_ble_eq_true rfl⟩ ?_
        refine G_if_eq_b (pc := 31) 45 dX4_countUnread_31 (by decide) (fun c31 => ?_) (fun c31 => ?_)
        · refine G_iinc_e (pc := 45) 3 (fun zw => [(3, .int (zI zw)), (0, .ref (ad (18, g, p, 0))), (1, .int (zI w)), (2, .int (zI m))]) dX4_countUnread_45 rfl (by decide) (fun _ => rfl) (fun v45 e45 => ?_)
          refine G_goto (pc := 48) 15 dX4_countUnread_48 (by decide) ?_
          refine G_perm (lv' := [(0, .ref (ad (18, g, p, 0))), (1, .int (zI w)), (2, .int (zI m)), (3, .int (zI v45))]) [1, 2, 3, 0] rfl ?_
          exact ih15 w m v45  ⟨by omega, by rw [← hi15b, sm_step (a := o) (n := w) (by omega), e45]; first | (rw [if_neg (fun h => c31 h.1)]; omega) | (rw [if_pos ⟨c31, c39⟩]; omega) | (rw [if_neg (fun h => h.2 c39)]; omega)⟩ (by omega)
        · refine G_aload_n (pc := 34) 0 0 dX4_countUnread_34 rfl rfl ?_
          refine G_iload_n (pc := 35) 3 3 dX4_countUnread_35 rfl rfl ?_
          refine G_callVd (pc := 36) gk_X4_84 dX4_countUnread_36 (mg_18 (by first | assumption | omega | exact ⟨by omega, by omega⟩ | exact hS _ _ | exact hT _ _)) rfl (c_X4_isThrough (by first | assumption | omega | exact ⟨by omega, by omega⟩ | exact hS _ _ | exact hT _ _) (by first | assumption | omega | exact ⟨by omega, by omega⟩ | exact hS _ _ | exact hT _ _) (by first | assumption | omega | exact ⟨by omega, by omega⟩ | exact hS _ _ | exact hT _ _) (by first | assumption | omega | exact ⟨by omega, by omega⟩ | exact hS _ _ | exact hT _ _)) rfl rfl (Nat.le_of_ble_eq_true rfl) ⟨⟨Nat.le_of_ble_eq_true rfl, Nat.le_of_ble_eq_true rfl⟩, Nat.le_of_ble_eq_true rfl, Nat.le_of_ble_eq_true rfl⟩ ?_
          refine G_if_ne_b (pc := 39) 45 dX4_countUnread_39 (by decide) (fun c39 => ?_) (fun c39 => ?_)
          · refine G_iinc_e (pc := 45) 3 (fun zw => [(3, .int (zI zw)), (0, .ref (ad (18, g, p, 0))), (1, .int (zI w)), (2, .int (zI m))]) dX4_countUnread_45 rfl (by decide) (fun _ => rfl) (fun v45 e45 => ?_)
            refine G_goto (pc := 48) 15 dX4_countUnread_48 (by decide) ?_
            refine G_perm (lv' := [(0, .ref (ad (18, g, p, 0))), (1, .int (zI w)), (2, .int (zI m)), (3, .int (zI v45))]) [1, 2, 3, 0] rfl ?_
            exact ih15 w m v45  ⟨by omega, by rw [← hi15b, sm_step (a := o) (n := w) (by omega), e45]; first | (rw [if_neg (fun h => c31 h.1)]; omega) | (rw [if_pos ⟨c31, c39⟩]; omega) | (rw [if_neg (fun h => h.2 c39)]; omega)⟩ (by omega)
          · refine G_iinc_e (pc := 42) 2 (fun zw => [(2, .int (zI zw)), (0, .ref (ad (18, g, p, 0))), (1, .int (zI w)), (3, .int (zI o))]) dX4_countUnread_42 rfl (by decide) (fun _ => rfl) (fun v42 e42 => ?_)
            refine G_iinc_e (pc := 45) 3 (fun zw => [(3, .int (zI zw)), (2, .int (zI v42)), (0, .ref (ad (18, g, p, 0))), (1, .int (zI w))]) dX4_countUnread_45 rfl (by decide) (fun _ => rfl) (fun v45 e45 => ?_)
            refine G_goto (pc := 48) 15 dX4_countUnread_48 (by decide) ?_
            refine G_perm (lv' := [(0, .ref (ad (18, g, p, 0))), (1, .int (zI w)), (2, .int (zI v42)), (3, .int (zI v45))]) [2, 3, 1, 0] rfl ?_
            exact ih15 w v42 v45  ⟨by omega, by rw [← hi15b, sm_step (a := o) (n := w) (by omega), e45]; first | (rw [if_neg (fun h => c31 h.1)]; omega) | (rw [if_pos ⟨c31, c39⟩]; omega) | (rw [if_neg (fun h => h.2 c39)]; omega)⟩ (by omega)
  refine G_perm (lv' := [(0, .ref (ad (18, g, p, 0))), (1, .int (zI v7)), (2, .int (zI v9)), (3, .int (zI v14))]) [3, 2, 1, 0] rfl ?_
  exact L15 _ v7 v9 v14  ⟨by omega, by subst e7 e9 e14; exact Int.zero_add _⟩ (Nat.lt_succ_self _)
set_option maxHeartbeats 4000000 in
set_option maxRecDepth 100000 in
theorem c_X4_earlier {l : Launch} {Δ : zDl} {ad : zK → Nat} {P : zP} {S : zS} {X : zMem} {x y : Int} (hx : zR x) (hy : zR y) : zMn l Δ yX4_earlier cX4_earlier 2 (some .int) 2 0 0 [.int (zI x), .int (zI y)] ad (mm Δ ad P S X) (zD (some (.int (zI (zer x y)))) ad (mm Δ ad P S X)) := by
  refine zMn_of (by decide) (Nat.le_of_ble_eq_true rfl) (fun Γ hl hΔ hF => ?_)
  subst hl hΔ
  show G Γ _ _ _ RX4 _ _ _ _ _ [(0, .int (zI x)), (1, .int (zI y))] []
  refine G_iload_n (pc := 0) 0 0 dX4_earlier_0 rfl rfl ?_
  refine G_iconst (pc := 1) dX4_earlier_1 ?_
  refine G_icmp_ne (pc := 2) 7 dX4_earlier_2 (by decide) (by first | exact hS _ _ | exact hT _ _ | exact ⟨by omega, by omega⟩ | assumption) (by first | exact hS _ _ | exact hT _ _ | exact ⟨by omega, by omega⟩ | assumption) (fun c2 => ?_) (fun c2 => ?_)
  · refine G_iload_n (pc := 7) 1 1 dX4_earlier_7 rfl rfl ?_
    refine G_iconst (pc := 8) dX4_earlier_8 ?_
    refine G_icmp_ne (pc := 9) 16 dX4_earlier_9 (by decide) (by first | exact hS _ _ | exact hT _ _ | exact ⟨by omega, by omega⟩ | assumption) (by first | exact hS _ _ | exact hT _ _ | exact ⟨by omega, by omega⟩ | assumption) (fun c9 => ?_) (fun c9 => ?_)
    · refine G_iload_n (pc := 16) 0 0 dX4_earlier_16 rfl rfl ?_
      refine G_iload_n (pc := 17) 1 1 dX4_earlier_17 rfl rfl ?_
      refine G_mmin (pc := 18) mx_X4_90 dX4_earlier_18 (by first | exact hS _ _ | exact hT _ _ | exact ⟨by omega, by omega⟩ | assumption) (by first | exact hS _ _ | exact hT _ _ | exact ⟨by omega, by omega⟩ | assumption) ⟨⟨Nat.le_of_ble_eq_true rfl, Nat.le_of_ble_eq_true rfl⟩, Nat.le_of_ble_eq_true rfl, Nat.le_of_ble_eq_true rfl⟩ ?_
      exact G_iret_d (pc := 21) hF dX4_earlier_21 ⟨Nat.le_of_ble_eq_true rfl, Nat.le_of_ble_eq_true rfl⟩ (by first | exact (if_pos (by omega)).symm | (unfold zer; rw [if_neg (by omega), if_pos (by omega)]) | (unfold zer; rw [if_neg (by omega), if_neg (by omega)]))
    · refine G_iload_n (pc := 12) 0 0 dX4_earlier_12 rfl rfl ?_
      refine G_goto (pc := 13) 21 dX4_earlier_13 (by decide) ?_
      exact G_iret_d (pc := 21) hF dX4_earlier_21 ⟨Nat.le_of_ble_eq_true rfl, Nat.le_of_ble_eq_true rfl⟩ (by first | exact (if_pos (by omega)).symm | (unfold zer; rw [if_neg (by omega), if_pos (by omega)]) | (unfold zer; rw [if_neg (by omega), if_neg (by omega)]))
  · refine G_iload_n (pc := 5) 1 1 dX4_earlier_5 rfl rfl ?_
    exact G_iret_d (pc := 6) hF dX4_earlier_6 ⟨Nat.le_of_ble_eq_true rfl, Nat.le_of_ble_eq_true rfl⟩ (by first | exact (if_pos (by omega)).symm | (unfold zer; rw [if_neg (by omega), if_pos (by omega)]) | (unfold zer; rw [if_neg (by omega), if_neg (by omega)]))
set_option maxHeartbeats 4000000 in
set_option maxRecDepth 100000 in
theorem c_X4_nextOffset {l : Launch} {Δ : zDl} {ad : zK → Nat} {P : zP} {S : zS} {X : zMem} {g p x : Int} (hP : zWP P) (hg : 0 ≤ g ∧ g < P 3 0 0) (hp : 0 ≤ p ∧ p < P 1 (P 4 g 0) 0) (hW : zWS P S) (hx : 0 ≤ x ∧ x ≤ 9999) : zMn l Δ yX4_nextOffset cX4_nextOffset 4 (some .int) 6 0 0 [.ref (ad (18, g, p, 0)), .int (zI x)] ad (mm Δ ad P S X) (zD (some (.int (zI (zno P S g p x)))) ad (mm Δ ad P S X)) := by
  refine zMn_of (by decide) (Nat.le_of_ble_eq_true rfl) (fun Γ hl hΔ hF => ?_)
  subst hl hΔ
  show G Γ _ _ _ RX4 _ _ _ _ _ [(0, .ref (ad (18, g, p, 0))), (1, .int (zI x))] []
  have hG := hP.g hg
  have hM := hP.m hG hp
  have hN := hP.t hG
  have hS := hW.R
  have hW5 := hW.m hg hp
  have hE := fi_le (Q := fun o => S (14, P 4 g 0, p, o) 4 = 2) (a := 0) (n := P 2 (P 4 g 0) p) hM.1
  have hE : 0 ≤ zse P S (P 4 g 0) p ∧ zse P S (P 4 g 0) p ≤ P 2 (P 4 g 0) p := hE
  have hw := hW.w
  refine G_aload_n (pc := 0) 0 0 dX4_nextOffset_0 rfl rfl ?_
  refine G_getf (pc := 1) fl_X4_34 dX4_nextOffset_1 (mg_18 (by first | assumption | omega | exact ⟨by omega, by omega⟩ | exact hS _ _ | exact hT _ _)) rfl ?_
  refine G_istore_ne (pc := 4) 2 (fun zw => [(2, .int (zI zw)), (0, .ref (ad (18, g, p, 0))), (1, .int (zI x))]) dX4_nextOffset_4 rfl (by decide) (fun _ => rfl) (fun v4 e4 => ?_)
  have L5 : ∀ (n : Nat) (o : Int), ((0 ≤ o ∧ o ≤ P 2 (P 4 g 0) p) ∧ fi (fun o => S (19, g, p, 0) o = 2 ∧ S (21, g, p, 0) o ≤ x) o (P 2 (P 4 g 0) p) = fi (fun o => S (19, g, p, 0) o = 2 ∧ S (21, g, p, 0) o ≤ x) (S (18, g, p, 0) 5) (P 2 (P 4 g 0) p)) → (P 2 (P 4 g 0) p - o).toNat < n → G Γ (zRm 6 0 0) cX4_nextOffset 4 RX4 ad (mm (z_d Γ) ad P S X) 0 0 5 [(0, .ref (ad (18, g, p, 0))), (1, .int (zI x)), (2, .int (zI o))] [] := by
    intro n
    induction n with
    | zero => intro o _ hn; omega
    | succ n ih5 =>
      intro o hi5 hn5
      have hwo := hw g p o
      refine G_iload_n (pc := 5) 2 2 dX4_nextOffset_5 rfl rfl ?_
      refine G_aload_n (pc := 6) 0 0 dX4_nextOffset_6 rfl rfl ?_
      refine G_getf (pc := 7) fl_X4_25 dX4_nextOffset_7 (mg_18 (by first | assumption | omega | exact ⟨by omega, by omega⟩ | exact hS _ _ | exact hT _ _)) rfl ?_
      refine G_callVd (pc := 10) gk_X4_44 dX4_nextOffset_10 (mg_11 (by first | assumption | omega | exact ⟨by omega, by omega⟩ | exact hS _ _ | exact hT _ _)) rfl (c_X3_size (by first | assumption | omega | exact ⟨by omega, by omega⟩ | exact hS _ _ | exact hT _ _) (by first | assumption | omega | exact ⟨by omega, by omega⟩ | exact hS _ _ | exact hT _ _)) rfl rfl (Nat.le_of_ble_eq_true rfl) ⟨⟨Nat.le_of_ble_eq_true rfl, Nat.le_of_ble_eq_true rfl⟩, Nat.le_of_ble_eq_true rfl, Nat.le_of_ble_eq_true rfl⟩ ?_
      refine G_icmp_ge (pc := 13) 44 dX4_nextOffset_13 (by decide) (by first | exact hS _ _ | exact hT _ _ | exact ⟨by omega, by omega⟩ | assumption) (by first | exact hS _ _ | exact hT _ _ | exact ⟨by omega, by omega⟩ | assumption) (fun c13 => ?_) (fun c13 => ?_)
      · refine G_aload_n (pc := 44) 0 0 dX4_nextOffset_44 rfl rfl ?_
        refine G_getf (pc := 45) fl_X4_25 dX4_nextOffset_45 (mg_18 (by first | assumption | omega | exact ⟨by omega, by omega⟩ | exact hS _ _ | exact hT _ _)) rfl ?_
        refine G_callVd (pc := 48) gk_X4_48 dX4_nextOffset_48 (mg_11 (by first | assumption | omega | exact ⟨by omega, by omega⟩ | exact hS _ _ | exact hT _ _)) rfl (c_X3_stableEnd (by first | assumption | omega | exact ⟨by omega, by omega⟩ | exact hS _ _ | exact hT _ _) (by first | assumption | omega | exact ⟨by omega, by omega⟩ | exact hS _ _ | exact hT _ _) (by first | assumption | omega | exact ⟨by omega, by omega⟩ | exact hS _ _ | exact hT _ _) (by first | assumption | omega | exact ⟨by omega, by omega⟩ | exact hS _ _ | exact hT _ _)) rfl rfl (Nat.le_of_ble_eq_true rfl) ⟨⟨Nat.le_of_ble_eq_true rfl, Nat.le_of_ble_eq_true rfl⟩, Nat.le_of_ble_eq_true rfl, Nat.le_of_ble_eq_true rfl⟩ ?_
        refine G_istore_ne (pc := 51) 2 (fun zw => [(2, .int (zI zw)), (0, .ref (ad (18, g, p, 0))), (1, .int (zI x))]) dX4_nextOffset_51 rfl (by decide) (fun _ => rfl) (fun v51 e51 => ?_)
        refine G_aload_n (pc := 52) 0 1 dX4_nextOffset_52 rfl rfl ?_
        refine G_getf (pc := 53) fl_X4_37 dX4_nextOffset_53 (mg_18 (by first | assumption | omega | exact ⟨by omega, by omega⟩ | exact hS _ _ | exact hT _ _)) rfl ?_
        refine G_istore_ne (pc := 56) 3 (fun zw => [(3, .int (zI zw)), (2, .int (zI v51)), (0, .ref (ad (18, g, p, 0))), (1, .int (zI x))]) dX4_nextOffset_56 rfl (by decide) (fun _ => rfl) (fun v56 e56 => ?_)
        have L57 : ∀ (n : Nat) (w : Int) (o2 : Int), ((w = zse P S (P 4 g 0) p ∧ 0 ≤ o2 ∧ o2 ≤ P 2 (P 4 g 0) p) ∧ fi (fun o => S (19, g, p, 0) o = 0 ∧ zkp S (P 4 g 0) p o) o2 w = fi (fun o => S (19, g, p, 0) o = 0 ∧ zkp S (P 4 g 0) p o) (S (18, g, p, 0) 6) (zse P S (P 4 g 0) p)) → (w - o2).toNat < n → G Γ (zRm 6 0 0) cX4_nextOffset 4 RX4 ad (mm (z_d Γ) ad P S X) 0 0 57 [(0, .ref (ad (18, g, p, 0))), (1, .int (zI x)), (2, .int (zI w)), (3, .int (zI o2))] [] := by
          intro n
          induction n with
          | zero => intro w o2 _ hn; omega
          | succ n ih57 =>
            intro w o2 hi57 hn57
            refine G_iload_n (pc := 57) 3 3 dX4_nextOffset_57 rfl rfl ?_
            refine G_iload_n (pc := 58) 2 2 dX4_nextOffset_58 rfl rfl ?_
            refine G_icmp_ge (pc := 59) 93 dX4_nextOffset_59 (by decide) (by first | exact hS _ _ | exact hT _ _ | exact ⟨by omega, by omega⟩ | assumption) (by first | exact hS _ _ | exact hT _ _ | exact ⟨by omega, by omega⟩ | assumption) (fun c59 => ?_) (fun c59 => ?_)
            · refine G_iconst (pc := 93) dX4_nextOffset_93 ?_
              exact G_iret_d (pc := 94) hF dX4_nextOffset_94 ⟨Nat.le_of_ble_eq_true rfl, Nat.le_of_ble_eq_true rfl⟩ (by unfold zno; rw [if_neg (by rw [← hi5.2, fi_end (by omega)]; omega), ← hi57.2, ← hi57.1.1, fi_end (by omega), if_neg (by omega)])
            · refine G_aload_n (pc := 62) 0 0 dX4_nextOffset_62 rfl rfl ?_
              refine G_getf (pc := 63) fl_X4_9 dX4_nextOffset_63 (mg_18 (by first | assumption | omega | exact ⟨by omega, by omega⟩ | exact hS _ _ | exact hT _ _)) rfl ?_
              refine G_iload_n (pc := 66) 3 3 dX4_nextOffset_66 rfl rfl ?_
              refine G_iald (pc := 67) dX4_nextOffset_67 (mg_19 (by first | assumption | omega | exact ⟨by omega, by omega⟩ | exact hS _ _ | exact hT _ _)) ⟨by omega, by omega, by omega, by omega⟩ ?_
              refine G_if_ne (pc := 68) 87 dX4_nextOffset_68 (by decide) (by first | exact hS _ _ | exact hT _ _ | exact ⟨by omega, by omega⟩ | assumption) (fun c68 => ?_) (fun c68 => ?_)
              · refine G_iinc_e (pc := 87) 3 (fun zw => [(3, .int (zI zw)), (0, .ref (ad (18, g, p, 0))), (1, .int (zI x)), (2, .int (zI w))]) dX4_nextOffset_87 rfl (by decide) (fun _ => rfl) (fun v87 e87 => ?_)
                refine G_goto (pc := 90) 57 dX4_nextOffset_90 (by decide) ?_
                refine G_perm (lv' := [(0, .ref (ad (18, g, p, 0))), (1, .int (zI x)), (2, .int (zI w)), (3, .int (zI v87))]) [1, 2, 3, 0] rfl ?_
                exact ih57 w v87  ⟨by omega, by rw [e87, ← hi57.2]; exact (fi_miss (a := o2) (n := w) (by omega) (fun h => by first | exact c68 h.1 | exact c82 h.2)).symm⟩ (by omega)
              · refine G_aload_n (pc := 71) 0 0 dX4_nextOffset_71 rfl rfl ?_
                refine G_getf (pc := 72) fl_X4_25 dX4_nextOffset_72 (mg_18 (by first | assumption | omega | exact ⟨by omega, by omega⟩ | exact hS _ _ | exact hT _ _)) rfl ?_
                refine G_iload_n (pc := 75) 3 3 dX4_nextOffset_75 rfl rfl ?_
                refine G_callVd (pc := 76) gk_X4_51 dX4_nextOffset_76 (mg_11 (by first | assumption | omega | exact ⟨by omega, by omega⟩ | exact hS _ _ | exact hT _ _)) rfl (c_X3_at (by first | assumption | omega | exact ⟨by omega, by omega⟩ | exact hS _ _ | exact hT _ _) (by first | assumption | omega | exact ⟨by omega, by omega⟩ | exact hS _ _ | exact hT _ _) (by first | assumption | omega | exact ⟨by omega, by omega⟩ | exact hS _ _ | exact hT _ _) (by first | assumption | omega | exact ⟨by omega, by omega⟩ | exact hS _ _ | exact hT _ _)) rfl rfl (Nat.le_of_ble_eq_true rfl) ⟨⟨Nat.le_of_ble_eq_true rfl, Nat.le_of_ble_eq_true rfl⟩, Nat.le_of_ble_eq_true rfl, Nat.le_of_ble_eq_true rfl⟩ ?_
                refine G_callVd (pc := 79) gk_X4_55 dX4_nextOffset_79 (mg_14 (by first | assumption | omega | exact ⟨by omega, by omega⟩ | exact hS _ _ | exact hT _ _)) rfl (c_X2_isKept (by first | assumption | omega | exact ⟨by omega, by omega⟩ | exact hS _ _ | exact hT _ _) (by first | assumption | omega | exact ⟨by omega, by omega⟩ | exact hS _ _ | exact hT _ _) (by first | assumption | omega | exact ⟨by omega, by omega⟩ | exact hS _ _ | exact hT _ _) (by first | assumption | omega | exact ⟨by omega, by omega⟩ | exact hS _ _ | exact hT _ _)) rfl rfl (Nat.le_of_ble_eq_true rfl) ⟨⟨Nat.le_of_ble_eq_true rfl, Nat.le_of_ble_eq_true rfl⟩, Nat.le_of_ble_eq_true rfl, Nat.le_of_ble_eq_true rfl⟩ ?_
                refine G_if_eq_b (pc := 82) 87 dX4_nextOffset_82 (by decide) (fun c82 => ?_) (fun c82 => ?_)
                · refine G_iinc_e (pc := 87) 3 (fun zw => [(3, .int (zI zw)), (0, .ref (ad (18, g, p, 0))), (1, .int (zI x)), (2, .int (zI w))]) dX4_nextOffset_87 rfl (by decide) (fun _ => rfl) (fun v87 e87 => ?_)
                  refine G_goto (pc := 90) 57 dX4_nextOffset_90 (by decide) ?_
                  refine G_perm (lv' := [(0, .ref (ad (18, g, p, 0))), (1, .int (zI x)), (2, .int (zI w)), (3, .int (zI v87))]) [1, 2, 3, 0] rfl ?_
                  exact ih57 w v87  ⟨by omega, by rw [e87, ← hi57.2]; exact (fi_miss (a := o2) (n := w) (by omega) (fun h => by first | exact c68 h.1 | exact c82 h.2)).symm⟩ (by omega)
                · refine G_iload_n (pc := 85) 3 3 dX4_nextOffset_85 rfl rfl ?_
                  exact G_iret_d (pc := 86) hF dX4_nextOffset_86 ⟨Nat.le_of_ble_eq_true rfl, Nat.le_of_ble_eq_true rfl⟩ (by unfold zno; rw [if_neg (by rw [← hi5.2, fi_end (by omega)]; omega), ← hi57.2, ← hi57.1.1, fi_hit (a := o2) (n := w) (by omega) ⟨by omega, c82⟩, if_pos (by omega)])
        refine G_perm (lv' := [(0, .ref (ad (18, g, p, 0))), (1, .int (zI x)), (2, .int (zI v51)), (3, .int (zI v56))]) [2, 3, 1, 0] rfl ?_
        exact L57 _ v51 v56  ⟨by omega, by rw [e51, e56]⟩ (Nat.lt_succ_self _)
      · refine G_aload_n (pc := 16) 0 0 dX4_nextOffset_16 rfl rfl ?_
        refine G_getf (pc := 17) fl_X4_9 dX4_nextOffset_17 (mg_18 (by first | assumption | omega | exact ⟨by omega, by omega⟩ | exact hS _ _ | exact hT _ _)) rfl ?_
        refine G_iload_n (pc := 20) 2 2 dX4_nextOffset_20 rfl rfl ?_
        refine G_iald (pc := 21) dX4_nextOffset_21 (mg_19 (by first | assumption | omega | exact ⟨by omega, by omega⟩ | exact hS _ _ | exact hT _ _)) ⟨by omega, by omega, by omega, by omega⟩ ?_
        refine G_iconst (pc := 22) dX4_nextOffset_22 ?_
        refine G_icmp_ne (pc := 23) 38 dX4_nextOffset_23 (by decide) (by first | exact hS _ _ | exact hT _ _ | exact ⟨by omega, by omega⟩ | assumption) (by first | exact hS _ _ | exact hT _ _ | exact ⟨by omega, by omega⟩ | assumption) (fun c23 => ?_) (fun c23 => ?_)
        · refine G_iinc_e (pc := 38) 2 (fun zw => [(2, .int (zI zw)), (0, .ref (ad (18, g, p, 0))), (1, .int (zI x))]) dX4_nextOffset_38 rfl (by decide) (fun _ => rfl) (fun v38 e38 => ?_)
          refine G_goto (pc := 41) 5 dX4_nextOffset_41 (by decide) ?_
          refine G_perm (lv' := [(0, .ref (ad (18, g, p, 0))), (1, .int (zI x)), (2, .int (zI v38))]) [1, 2, 0] rfl ?_
          exact ih5 v38  ⟨by omega, by rw [e38, ← hi5.2]; exact (fi_miss (a := o) (n := P 2 (P 4 g 0) p) (by omega) (by omega)).symm⟩ (by omega)
        · refine G_aload_n (pc := 26) 0 0 dX4_nextOffset_26 rfl rfl ?_
          refine G_getf (pc := 27) fl_X4_18 dX4_nextOffset_27 (mg_18 (by first | assumption | omega | exact ⟨by omega, by omega⟩ | exact hS _ _ | exact hT _ _)) rfl ?_
          refine G_iload_n (pc := 30) 2 2 dX4_nextOffset_30 rfl rfl ?_
          refine G_iald (pc := 31) dX4_nextOffset_31 (mg_21 (by first | assumption | omega | exact ⟨by omega, by omega⟩ | exact hS _ _ | exact hT _ _)) ⟨by omega, by omega, by omega, by omega⟩ ?_
          refine G_iload_n (pc := 32) 1 1 dX4_nextOffset_32 rfl rfl ?_
          refine G_icmp_gt (pc := 33) 38 dX4_nextOffset_33 (by decide) (by first | exact hS _ _ | exact hT _ _ | exact ⟨by omega, by omega⟩ | assumption) (by first | exact hS _ _ | exact hT _ _ | exact ⟨by omega, by omega⟩ | assumption) (fun c33 => ?_) (fun c33 => ?_)
          · refine G_iinc_e (pc := 38) 2 (fun zw => [(2, .int (zI zw)), (0, .ref (ad (18, g, p, 0))), (1, .int (zI x))]) dX4_nextOffset_38 rfl (by decide) (fun _ => rfl) (fun v38 e38 => ?_)
            refine G_goto (pc := 41) 5 dX4_nextOffset_41 (by decide) ?_
            refine G_perm (lv' := [(0, .ref (ad (18, g, p, 0))), (1, .int (zI x)), (2, .int (zI v38))]) [1, 2, 0] rfl ?_
            exact ih5 v38  ⟨by omega, by rw [e38, ← hi5.2]; exact (fi_miss (a := o) (n := P 2 (P 4 g 0) p) (by omega) (by omega)).symm⟩ (by omega)
          · refine G_iload_n (pc := 36) 2 2 dX4_nextOffset_36 rfl rfl ?_
            exact G_iret_d (pc := 37) hF dX4_nextOffset_37 ⟨Nat.le_of_ble_eq_true rfl, Nat.le_of_ble_eq_true rfl⟩ (by unfold zno; rw [← hi5.2, fi_hit (a := o) (n := P 2 (P 4 g 0) p) (by omega) ⟨by omega, by omega⟩, if_pos (by omega)])
  refine G_perm (lv' := [(0, .ref (ad (18, g, p, 0))), (1, .int (zI x)), (2, .int (zI v4))]) [1, 2, 0] rfl ?_
  exact L5 _ v4  ⟨by omega, by rw [e4]⟩ (Nat.lt_succ_self _)
set_option maxHeartbeats 4000000 in
set_option maxRecDepth 100000 in
theorem c_X4_nextTimeFrom {l : Launch} {Δ : zDl} {ad : zK → Nat} {P : zP} {S : zS} {X : zMem} {g p x y : Int} (hP : zWP P) (hg : 0 ≤ g ∧ g < P 3 0 0) (hp : 0 ≤ p ∧ p < P 1 (P 4 g 0) 0) (hW : zWS P S) (hx : 0 ≤ x ∧ x ≤ 9999) (hy : 1 ≤ y ∧ y ≤ 50) : zMn l Δ yX4_nextTimeFrom cX4_nextTimeFrom 5 (some .int) 3 0 0 [.ref (ad (18, g, p, 0)), .int (zI x), .int (zI y)] ad (mm Δ ad P S X) (zD (some (.int (zI (lp (zntf S g p x y) (S (18, g, p, 0) 5) (P 2 (P 4 g 0) p) (-1))))) ad (mm Δ ad P S X)) := by
  refine zMn_of (by decide) (Nat.le_of_ble_eq_true rfl) (fun Γ hl hΔ hF => ?_)
  subst hl hΔ
  show G Γ _ _ _ RX4 _ _ _ _ _ [(0, .ref (ad (18, g, p, 0))), (1, .int (zI x)), (2, .int (zI y))] []
  have hG := hP.g hg
  have hM := hP.m hG hp
  have hN := hP.t hG
  have hS := hW.R
  have hW5 := hW.m hg hp
  have hw := hW.w
  refine G_iconst (pc := 0) dX4_nextTimeFrom_0 ?_
  refine G_istore_ne (pc := 1) 3 (fun zw => [(3, .int (zI zw)), (0, .ref (ad (18, g, p, 0))), (1, .int (zI x)), (2, .int (zI y))]) dX4_nextTimeFrom_1 rfl (by decide) (fun _ => rfl) (fun v1 e1 => ?_)
  refine G_aload_n (pc := 2) 0 1 dX4_nextTimeFrom_2 rfl rfl ?_
  refine G_getf (pc := 3) fl_X4_34 dX4_nextTimeFrom_3 (mg_18 (by first | assumption | omega | exact ⟨by omega, by omega⟩ | exact hS _ _ | exact hT _ _)) rfl ?_
  refine G_istore_e (pc := 6) (fun zw => [(4, .int (zI zw)), (3, .int (zI v1)), (0, .ref (ad (18, g, p, 0))), (1, .int (zI x)), (2, .int (zI y))]) dX4_nextTimeFrom_6 (by decide) (fun _ => rfl) (fun v6 e6 => ?_)
  have L8 : ∀ (n : Nat) (m : Int) (o : Int), (((0 ≤ o ∧ o ≤ P 2 (P 4 g 0) p) ∧ (-1 ≤ m ∧ m ≤ 30000)) ∧ lp (zntf S g p x y) o (P 2 (P 4 g 0) p) m = lp (zntf S g p x y) (S (18, g, p, 0) 5) (P 2 (P 4 g 0) p) (-1)) → (P 2 (P 4 g 0) p - o).toNat < n → G Γ (zRm 3 0 0) cX4_nextTimeFrom 5 RX4 ad (mm (z_d Γ) ad P S X) 0 0 8 [(0, .ref (ad (18, g, p, 0))), (1, .int (zI x)), (2, .int (zI y)), (3, .int (zI m)), (4, .int (zI o))] [] := by
    intro n
    induction n with
    | zero => intro m o _ hn; omega
    | succ n ih8 =>
      intro m o hi8 hn8
      have hwo := hw g p o
      refine G_iload (pc := 8) 4 dX4_nextTimeFrom_8 rfl ?_
      refine G_aload_n (pc := 10) 0 0 dX4_nextTimeFrom_10 rfl rfl ?_
      refine G_getf (pc := 11) fl_X4_25 dX4_nextTimeFrom_11 (mg_18 (by first | assumption | omega | exact ⟨by omega, by omega⟩ | exact hS _ _ | exact hT _ _)) rfl ?_
      refine G_callVd (pc := 14) gk_X4_44 dX4_nextTimeFrom_14 (mg_11 (by first | assumption | omega | exact ⟨by omega, by omega⟩ | exact hS _ _ | exact hT _ _)) rfl (c_X3_size (by first | assumption | omega | exact ⟨by omega, by omega⟩ | exact hS _ _ | exact hT _ _) (by first | assumption | omega | exact ⟨by omega, by omega⟩ | exact hS _ _ | exact hT _ _)) rfl rfl (Nat.le_of_ble_eq_true rfl) ⟨⟨Nat.le_of_ble_eq_true rfl, Nat.le_of_ble_eq_true rfl⟩, Nat.le_of_ble_eq_true rfl, Nat.le_of_ble_eq_true rfl⟩ ?_
      refine G_icmp_ge (pc := 17) 87 dX4_nextTimeFrom_17 (by decide) (by first | exact hS _ _ | exact hT _ _ | exact ⟨by omega, by omega⟩ | assumption) (by first | exact hS _ _ | exact hT _ _ | exact ⟨by omega, by omega⟩ | assumption) (fun c17 => ?_) (fun c17 => ?_)
      · refine G_iload_n (pc := 87) 3 3 dX4_nextTimeFrom_87 rfl rfl ?_
        exact G_iret_d (pc := 88) hF dX4_nextTimeFrom_88 ⟨Nat.le_of_ble_eq_true rfl, Nat.le_of_ble_eq_true rfl⟩ (by rw [← hi8.2, lp_end (by omega)])
      · refine G_aload_n (pc := 20) 0 0 dX4_nextTimeFrom_20 rfl rfl ?_
        refine G_getf (pc := 21) fl_X4_9 dX4_nextTimeFrom_21 (mg_18 (by first | assumption | omega | exact ⟨by omega, by omega⟩ | exact hS _ _ | exact hT _ _)) rfl ?_
        refine G_iload (pc := 24) 4 dX4_nextTimeFrom_24 rfl ?_
        refine G_iald (pc := 26) dX4_nextTimeFrom_26 (mg_19 (by first | assumption | omega | exact ⟨by omega, by omega⟩ | exact hS _ _ | exact hT _ _)) ⟨by omega, by omega, by omega, by omega⟩ ?_
        refine G_iconst (pc := 27) dX4_nextTimeFrom_27 ?_
        refine G_icmp_ne (pc := 28) 50 dX4_nextTimeFrom_28 (by decide) (by first | exact hS _ _ | exact hT _ _ | exact ⟨by omega, by omega⟩ | assumption) (by first | exact hS _ _ | exact hT _ _ | exact ⟨by omega, by omega⟩ | assumption) (fun c28 => ?_) (fun c28 => ?_)
        · refine G_aload_n (pc := 50) 0 0 dX4_nextTimeFrom_50 rfl rfl ?_
          refine G_getf (pc := 51) fl_X4_9 dX4_nextTimeFrom_51 (mg_18 (by first | assumption | omega | exact ⟨by omega, by omega⟩ | exact hS _ _ | exact hT _ _)) rfl ?_
          refine G_iload (pc := 54) 4 dX4_nextTimeFrom_54 rfl ?_
          refine G_iald (pc := 56) dX4_nextTimeFrom_56 (mg_19 (by first | assumption | omega | exact ⟨by omega, by omega⟩ | exact hS _ _ | exact hT _ _)) ⟨by omega, by omega, by omega, by omega⟩ ?_
          refine G_iconst (pc := 57) dX4_nextTimeFrom_57 ?_
          refine G_icmp_ne (pc := 58) 81 dX4_nextTimeFrom_58 (by decide) (by first | exact hS _ _ | exact hT _ _ | exact ⟨by omega, by omega⟩ | assumption) (by first | exact hS _ _ | exact hT _ _ | exact ⟨by omega, by omega⟩ | assumption) (fun c58 => ?_) (fun c58 => ?_)
          · refine G_iinc_e (pc := 81) 4 (fun zw => [(4, .int (zI zw)), (0, .ref (ad (18, g, p, 0))), (1, .int (zI x)), (2, .int (zI y)), (3, .int (zI m))]) dX4_nextTimeFrom_81 rfl (by decide) (fun _ => rfl) (fun v81 e81 => ?_)
            refine G_goto (pc := 84) 8 dX4_nextTimeFrom_84 (by decide) ?_
            refine G_perm (lv' := [(0, .ref (ad (18, g, p, 0))), (1, .int (zI x)), (2, .int (zI y)), (3, .int (zI m)), (4, .int (zI v81))]) [1, 2, 3, 4, 0] rfl ?_
            exact ih8 m v81  ⟨by have := zer_le (a := m) (b := max (S (21, g, p, 0) o) x); have := zer_le (a := m) (b := max (S (21, g, p, 0) o + y) (x + 1)); omega, by rw [e81, ← hi8.2, lp_step (a := o) (n := P 2 (P 4 g 0) p) (by omega)]; first | rw [show zntf S g p x y o m = v46 by rw [e46]; exact if_pos c28] | rw [show zntf S g p x y o m = v80 by rw [e80]; exact (if_neg c28).trans (if_pos c58)] | rw [show zntf S g p x y o m = m from (if_neg c28).trans (if_neg c58)]⟩ (by omega)
          · refine G_iload_n (pc := 61) 3 3 dX4_nextTimeFrom_61 rfl rfl ?_
            refine G_aload_n (pc := 62) 0 0 dX4_nextTimeFrom_62 rfl rfl ?_
            refine G_getf (pc := 63) fl_X4_18 dX4_nextTimeFrom_63 (mg_18 (by first | assumption | omega | exact ⟨by omega, by omega⟩ | exact hS _ _ | exact hT _ _)) rfl ?_
            refine G_iload (pc := 66) 4 dX4_nextTimeFrom_66 rfl ?_
            refine G_iald (pc := 68) dX4_nextTimeFrom_68 (mg_21 (by first | assumption | omega | exact ⟨by omega, by omega⟩ | exact hS _ _ | exact hT _ _)) ⟨by omega, by omega, by omega, by omega⟩ ?_
            refine G_iload_n (pc := 69) 2 2 dX4_nextTimeFrom_69 rfl rfl ?_
            refine G_iadd (pc := 70) dX4_nextTimeFrom_70 ?_
            refine G_iload_n (pc := 71) 1 1 dX4_nextTimeFrom_71 rfl rfl ?_
            refine G_iconst (pc := 72) dX4_nextTimeFrom_72 ?_
            refine G_iadd (pc := 73) dX4_nextTimeFrom_73 ?_
            refine G_mmax (pc := 74) mx_X4_75 dX4_nextTimeFrom_74 (by first | exact hS _ _ | exact hT _ _ | exact ⟨by omega, by omega⟩ | assumption) (by first | exact hS _ _ | exact hT _ _ | exact ⟨by omega, by omega⟩ | assumption) ⟨⟨Nat.le_of_ble_eq_true rfl, Nat.le_of_ble_eq_true rfl⟩, Nat.le_of_ble_eq_true rfl, Nat.le_of_ble_eq_true rfl⟩ ?_
            refine G_callSd (pc := 77) gk_X4_87 dX4_nextTimeFrom_77 (c_X4_earlier (by first | assumption | omega | exact ⟨by omega, by omega⟩ | exact hS _ _ | exact hT _ _) (by first | assumption | omega | exact ⟨by omega, by omega⟩ | exact hS _ _ | exact hT _ _)) rfl rfl (Nat.le_of_ble_eq_true rfl) ⟨⟨Nat.le_of_ble_eq_true rfl, Nat.le_of_ble_eq_true rfl⟩, Nat.le_of_ble_eq_true rfl, Nat.le_of_ble_eq_true rfl⟩ ?_
            refine G_istore_ne (pc := 80) 3 (fun zw => [(3, .int (zI zw)), (0, .ref (ad (18, g, p, 0))), (1, .int (zI x)), (2, .int (zI y)), (4, .int (zI o))]) dX4_nextTimeFrom_80 rfl (by decide) (fun _ => rfl) (fun v80 e80 => ?_)
            refine G_iinc_e (pc := 81) 4 (fun zw => [(4, .int (zI zw)), (3, .int (zI v80)), (0, .ref (ad (18, g, p, 0))), (1, .int (zI x)), (2, .int (zI y))]) dX4_nextTimeFrom_81 rfl (by decide) (fun _ => rfl) (fun v81 e81 => ?_)
            refine G_goto (pc := 84) 8 dX4_nextTimeFrom_84 (by decide) ?_
            refine G_perm (lv' := [(0, .ref (ad (18, g, p, 0))), (1, .int (zI x)), (2, .int (zI y)), (3, .int (zI v80)), (4, .int (zI v81))]) [2, 3, 4, 1, 0] rfl ?_
            exact ih8 v80 v81  ⟨by have := zer_le (a := m) (b := max (S (21, g, p, 0) o) x); have := zer_le (a := m) (b := max (S (21, g, p, 0) o + y) (x + 1)); omega, by rw [e81, ← hi8.2, lp_step (a := o) (n := P 2 (P 4 g 0) p) (by omega)]; first | rw [show zntf S g p x y o m = v46 by rw [e46]; exact if_pos c28] | rw [show zntf S g p x y o m = v80 by rw [e80]; exact (if_neg c28).trans (if_pos c58)] | rw [show zntf S g p x y o m = m from (if_neg c28).trans (if_neg c58)]⟩ (by omega)
        · refine G_iload_n (pc := 31) 3 3 dX4_nextTimeFrom_31 rfl rfl ?_
          refine G_aload_n (pc := 32) 0 0 dX4_nextTimeFrom_32 rfl rfl ?_
          refine G_getf (pc := 33) fl_X4_18 dX4_nextTimeFrom_33 (mg_18 (by first | assumption | omega | exact ⟨by omega, by omega⟩ | exact hS _ _ | exact hT _ _)) rfl ?_
          refine G_iload (pc := 36) 4 dX4_nextTimeFrom_36 rfl ?_
          refine G_iald (pc := 38) dX4_nextTimeFrom_38 (mg_21 (by first | assumption | omega | exact ⟨by omega, by omega⟩ | exact hS _ _ | exact hT _ _)) ⟨by omega, by omega, by omega, by omega⟩ ?_
          refine G_iload_n (pc := 39) 1 1 dX4_nextTimeFrom_39 rfl rfl ?_
          refine G_mmax (pc := 40) mx_X4_75 dX4_nextTimeFrom_40 (by first | exact hS _ _ | exact hT _ _ | exact ⟨by omega, by omega⟩ | assumption) (by first | exact hS _ _ | exact hT _ _ | exact ⟨by omega, by omega⟩ | assumption) ⟨⟨Nat.le_of_ble_eq_true rfl, Nat.le_of_ble_eq_true rfl⟩, Nat.le_of_ble_eq_true rfl, Nat.le_of_ble_eq_true rfl⟩ ?_
          refine G_callSd (pc := 43) gk_X4_87 dX4_nextTimeFrom_43 (c_X4_earlier (by first | assumption | omega | exact ⟨by omega, by omega⟩ | exact hS _ _ | exact hT _ _) (by first | assumption | omega | exact ⟨by omega, by omega⟩ | exact hS _ _ | exact hT _ _)) rfl rfl (Nat.le_of_ble_eq_true rfl) ⟨⟨Nat.le_of_ble_eq_true rfl, Nat.le_of_ble_eq_true rfl⟩, Nat.le_of_ble_eq_true rfl, Nat.le_of_ble_eq_true rfl⟩ ?_
          refine G_istore_ne (pc := 46) 3 (fun zw => [(3, .int (zI zw)), (0, .ref (ad (18, g, p, 0))), (1, .int (zI x)), (2, .int (zI y)), (4, .int (zI o))]) dX4_nextTimeFrom_46 rfl (by decide) (fun _ => rfl) (fun v46 e46 => ?_)
          refine G_goto (pc := 47) 81 dX4_nextTimeFrom_47 (by decide) ?_
          refine G_iinc_e (pc := 81) 4 (fun zw => [(4, .int (zI zw)), (3, .int (zI v46)), (0, .ref (ad (18, g, p, 0))), (1, .int (zI x)), (2, .int (zI y))]) dX4_nextTimeFrom_81 rfl (by decide) (fun _ => rfl) (fun v81 e81 => ?_)
          refine G_goto (pc := 84) 8 dX4_nextTimeFrom_84 (by decide) ?_
          refine G_perm (lv' := [(0, .ref (ad (18, g, p, 0))), (1, .int (zI x)), (2, .int (zI y)), (3, .int (zI v46)), (4, .int (zI v81))]) [2, 3, 4, 1, 0] rfl ?_
          exact ih8 v46 v81  ⟨by have := zer_le (a := m) (b := max (S (21, g, p, 0) o) x); have := zer_le (a := m) (b := max (S (21, g, p, 0) o + y) (x + 1)); omega, by rw [e81, ← hi8.2, lp_step (a := o) (n := P 2 (P 4 g 0) p) (by omega)]; first | rw [show zntf S g p x y o m = v46 by rw [e46]; exact if_pos c28] | rw [show zntf S g p x y o m = v80 by rw [e80]; exact (if_neg c28).trans (if_pos c58)] | rw [show zntf S g p x y o m = m from (if_neg c28).trans (if_neg c58)]⟩ (by omega)
  refine G_perm (lv' := [(0, .ref (ad (18, g, p, 0))), (1, .int (zI x)), (2, .int (zI y)), (3, .int (zI v1)), (4, .int (zI v6))]) [2, 3, 4, 1, 0] rfl ?_
  exact L8 _ v1 v6  ⟨by omega, by rw [e1, e6]⟩ (Nat.lt_succ_self _)
set_option maxHeartbeats 4000000 in
set_option maxRecDepth 100000 in
theorem c_X4_moveTo {l : Launch} {Δ : zDl} {ad : zK → Nat} {P : zP} {S : zS} {X : zMem} {g p o : Int} (hP : zWP P) (hg : 0 ≤ g ∧ g < P 3 0 0) (hp : 0 ≤ p ∧ p < P 1 (P 4 g 0) 0) (ho : 0 ≤ o ∧ o ≤ P 2 (P 4 g 0) p) (hW : zWS P S) : zMn l Δ yX4_moveTo cX4_moveTo 3 none 3 0 0 [.ref (ad (18, g, p, 0)), .int (zI o)] ad (mm Δ ad P S X) (zD none ad (mm Δ ad P (zmv P S g p o) X)) := by
  refine zMn_of (by decide) (Nat.le_of_ble_eq_true rfl) (fun Γ hl hΔ hF => ?_)
  subst hl hΔ
  show G Γ _ _ _ RX4 _ _ _ _ _ [(0, .ref (ad (18, g, p, 0))), (1, .int (zI o))] []
  have hG := hP.g hg
  have hM := hP.m hG hp
  refine G_iconst (pc := 0) dX4_moveTo_0 ?_
  refine G_istore_ne (pc := 1) 2 (fun zw => [(2, .int (zI zw)), (0, .ref (ad (18, g, p, 0))), (1, .int (zI o))]) dX4_moveTo_1 rfl (by decide) (fun _ => rfl) (fun v1 e1 => ?_)
  have L2 : ∀ (n : Nat) (k : Int) (T : zS), ((0 ≤ k ∧ k ≤ o) ∧ lp (zm1 g p) k o T = lp (zm1 g p) 0 o S ∧ zWS P T) → (o - k).toNat < n → G Γ (zRm 3 0 0) cX4_moveTo 3 RX4 ad (mm (z_d Γ) ad P T X) 0 0 2 [(0, .ref (ad (18, g, p, 0))), (1, .int (zI o)), (2, .int (zI k))] [] := by
    intro n
    induction n with
    | zero => intro k T _ hn; omega
    | succ n ih2 =>
      intro k T hi2 hn2
      obtain ⟨hk, hq, hTW⟩ := hi2
      have hT := hTW.R
      refine G_iload_n (pc := 2) 2 2 dX4_moveTo_2 rfl rfl ?_
      refine G_iload_n (pc := 3) 1 1 dX4_moveTo_3 rfl rfl ?_
      refine G_icmp_ge (pc := 4) 26 dX4_moveTo_4 (by decide) (by first | exact hS _ _ | exact hT _ _ | exact ⟨by omega, by omega⟩ | assumption) (by first | exact hS _ _ | exact hT _ _ | exact ⟨by omega, by omega⟩ | assumption) (fun c4 => ?_) (fun c4 => ?_)
      · refine G_iload_n (pc := 26) 1 1 dX4_moveTo_26 rfl rfl ?_
        refine G_istore_ne (pc := 27) 2 (fun zw => [(2, .int (zI zw)), (0, .ref (ad (18, g, p, 0))), (1, .int (zI o))]) dX4_moveTo_27 rfl (by decide) (fun _ => rfl) (fun v27 e27 => ?_)
        have L28 : ∀ (n : Nat) (k2 : Int) (T2 : zS), ((0 ≤ k2 ∧ k2 ≤ P 2 (P 4 g 0) p) ∧ lp (zm2 g p) k2 (P 2 (P 4 g 0) p) T2 = lp (zm2 g p) o (P 2 (P 4 g 0) p) (lp (zm1 g p) 0 o S) ∧ zWS P T2) → (P 2 (P 4 g 0) p - k2).toNat < n → G Γ (zRm 3 0 0) cX4_moveTo 3 RX4 ad (mm (z_d Γ) ad P T2 X) 0 0 28 [(0, .ref (ad (18, g, p, 0))), (1, .int (zI o)), (2, .int (zI k2))] [] := by
          intro n
          induction n with
          | zero => intro k2 T2 _ hn; omega
          | succ n ih28 =>
            intro k2 T2 hi28 hn28
            obtain ⟨hk2, hq2, hTW2⟩ := hi28
            have hT2 := hTW2.R
            refine G_iload_n (pc := 28) 2 2 dX4_moveTo_28 rfl rfl ?_
            refine G_aload_n (pc := 29) 0 0 dX4_moveTo_29 rfl rfl ?_
            refine G_getf (pc := 30) fl_X4_25 dX4_moveTo_30 (mg_18 (by first | assumption | omega | exact ⟨by omega, by omega⟩ | exact hS _ _ | exact hT _ _)) rfl ?_
            refine G_callVd (pc := 33) gk_X4_44 dX4_moveTo_33 (mg_11 (by first | assumption | omega | exact ⟨by omega, by omega⟩ | exact hS _ _ | exact hT _ _)) rfl (c_X3_size (by first | assumption | omega | exact ⟨by omega, by omega⟩ | exact hS _ _ | exact hT _ _) (by first | assumption | omega | exact ⟨by omega, by omega⟩ | exact hS _ _ | exact hT _ _)) rfl rfl (Nat.le_of_ble_eq_true rfl) ⟨⟨Nat.le_of_ble_eq_true rfl, Nat.le_of_ble_eq_true rfl⟩, Nat.le_of_ble_eq_true rfl, Nat.le_of_ble_eq_true rfl⟩ ?_
            refine G_icmp_ge (pc := 36) 50 dX4_moveTo_36 (by decide) (by first | exact hS _ _ | exact hT _ _ | exact ⟨by omega, by omega⟩ | assumption) (by first | exact hS _ _ | exact hT _ _ | exact ⟨by omega, by omega⟩ | assumption) (fun c36 => ?_) (fun c36 => ?_)
            · refine G_aload_n (pc := 50) 0 0 dX4_moveTo_50 rfl rfl ?_
              refine G_iload_n (pc := 51) 1 1 dX4_moveTo_51 rfl rfl ?_
              refine G_putf (pc := 52) fl_X4_34 fp_X4_5 dX4_moveTo_52 (mg_18 (by first | assumption | omega | exact ⟨by omega, by omega⟩ | exact hS _ _ | exact hT _ _)) (Nat.le_of_ble_eq_true rfl) rfl rfl (mp_18_5 _ (by first | assumption | omega | exact ⟨by omega, by omega⟩ | exact hS _ _ | exact hT _ _)) ?_
              refine G_name (fun S1_52 hS1_52 => ?_)
              refine G_aload_n (pc := 55) 0 0 dX4_moveTo_55 rfl rfl ?_
              refine G_iload_n (pc := 56) 1 1 dX4_moveTo_56 rfl rfl ?_
              refine G_putf (pc := 57) fl_X4_37 fp_X4_6 dX4_moveTo_57 (mg_18 (by first | assumption | omega | exact ⟨by omega, by omega⟩ | exact hS _ _ | exact hT _ _)) (Nat.le_of_ble_eq_true rfl) rfl rfl (mp_18_6 _ (by first | assumption | omega | exact ⟨by omega, by omega⟩ | exact hS _ _ | exact hT _ _)) ?_
              refine G_name (fun S2_57 hS2_57 => ?_)
              exact G_vret_d (pc := 60) hF dX4_moveTo_60 ⟨Nat.le_of_ble_eq_true rfl, Nat.le_of_ble_eq_true rfl⟩ (by rw [hS2_57, hS1_52]; unfold zmv; rw [← hq2, lp_end (by omega)])
            · refine G_aload_n (pc := 39) 0 0 dX4_moveTo_39 rfl rfl ?_
              refine G_iload_n (pc := 40) 2 2 dX4_moveTo_40 rfl rfl ?_
              refine G_callVv (pc := 41) gk_X4_64 dX4_moveTo_41 (mg_18 (by first | assumption | omega | exact ⟨by omega, by omega⟩ | exact hS _ _ | exact hT _ _)) rfl (c_X4_forget (by first | assumption | omega | exact ⟨by omega, by omega⟩ | exact hS _ _ | exact hT _ _) (by first | assumption | omega | exact ⟨by omega, by omega⟩ | exact hS _ _ | exact hT _ _) (by first | assumption | omega | exact ⟨by omega, by omega⟩ | exact hS _ _ | exact hT _ _)) rfl rfl (Nat.le_of_ble_eq_true rfl) ⟨⟨Nat.le_of_ble_eq_true rfl, Nat.le_of_ble_eq_true rfl⟩, Nat.le_of_ble_eq_true rfl, Nat.le_of_ble_eq_true rfl⟩ ?_
              refine G_name (fun S3_41 hS3_41 => ?_)
              refine G_iinc_e (pc := 44) 2 (fun zw => [(2, .int (zI zw)), (0, .ref (ad (18, g, p, 0))), (1, .int (zI o))]) dX4_moveTo_44 rfl (by decide) (fun _ => rfl) (fun v44 e44 => ?_)
              refine G_goto (pc := 47) 28 dX4_moveTo_47 (by decide) ?_
              refine G_perm (lv' := [(0, .ref (ad (18, g, p, 0))), (1, .int (zI o)), (2, .int (zI v44))]) [1, 2, 0] rfl ?_
              exact ih28 v44 S3_41 ⟨by omega, by rw [e44, ← hq2, lp_step (a := k2) (n := P 2 (P 4 g 0) p) (by omega), hS3_41]; rfl, by rw [hS3_41]; exact zfg_W hTW2⟩ (by omega)
        refine G_perm (lv' := [(0, .ref (ad (18, g, p, 0))), (1, .int (zI o)), (2, .int (zI v27))]) [1, 2, 0] rfl ?_
        exact L28 _ v27 T ⟨by omega, by rw [e27, ← hq, lp_end (a := k) (by omega)], hTW⟩ (Nat.lt_succ_self _)
      · refine G_aload_n (pc := 7) 0 0 dX4_moveTo_7 rfl rfl ?_
        refine G_iload_n (pc := 8) 2 2 dX4_moveTo_8 rfl rfl ?_
        refine G_callVd (pc := 9) gk_X4_61 dX4_moveTo_9 (mg_18 (by first | assumption | omega | exact ⟨by omega, by omega⟩ | exact hS _ _ | exact hT _ _)) rfl (c_X4_isUnderway (by first | assumption | omega | exact ⟨by omega, by omega⟩ | exact hS _ _ | exact hT _ _) (by first | assumption | omega | exact ⟨by omega, by omega⟩ | exact hS _ _ | exact hT _ _) (by first | assumption | omega | exact ⟨by omega, by omega⟩ | exact hS _ _ | exact hT _ _) (by first | assumption | omega | exact ⟨by omega, by omega⟩ | exact hS _ _ | exact hT _ _)) rfl rfl (Nat.le_of_ble_eq_true rfl) ⟨⟨Nat.le_of_ble_eq_true rfl, Nat.le_of_ble_eq_true rfl⟩, Nat.le_of_ble_eq_true rfl, Nat.le_of_ble_eq_true rfl⟩ ?_
        refine G_if_eq_b (pc := 12) 20 dX4_moveTo_12 (by decide) (fun c12 => ?_) (fun c12 => ?_)
        · refine G_iinc_e (pc := 20) 2 (fun zw => [(2, .int (zI zw)), (0, .ref (ad (18, g, p, 0))), (1, .int (zI o))]) dX4_moveTo_20 rfl (by decide) (fun _ => rfl) (fun v20 e20 => ?_)
          refine G_goto (pc := 23) 2 dX4_moveTo_23 (by decide) ?_
          refine G_perm (lv' := [(0, .ref (ad (18, g, p, 0))), (1, .int (zI o)), (2, .int (zI v20))]) [1, 2, 0] rfl ?_
          exact ih2 v20 T ⟨by omega, by rw [e20, ← hq, lp_step (a := k) (n := o) (by omega)]; first | rw [show zm1 g p k T = T from if_neg c12] | rw [show zm1 g p k T = T by rw [hT]; exact if_pos c12], by first | exact hTW | (rw [hT]; exact zfg_W hTW)⟩ (by omega)
        · refine G_aload_n (pc := 15) 0 0 dX4_moveTo_15 rfl rfl ?_
          refine G_iload_n (pc := 16) 2 2 dX4_moveTo_16 rfl rfl ?_
          refine G_callVv (pc := 17) gk_X4_64 dX4_moveTo_17 (mg_18 (by first | assumption | omega | exact ⟨by omega, by omega⟩ | exact hS _ _ | exact hT _ _)) rfl (c_X4_forget (by first | assumption | omega | exact ⟨by omega, by omega⟩ | exact hS _ _ | exact hT _ _) (by first | assumption | omega | exact ⟨by omega, by omega⟩ | exact hS _ _ | exact hT _ _) (by first | assumption | omega | exact ⟨by omega, by omega⟩ | exact hS _ _ | exact hT _ _)) rfl rfl (Nat.le_of_ble_eq_true rfl) ⟨⟨Nat.le_of_ble_eq_true rfl, Nat.le_of_ble_eq_true rfl⟩, Nat.le_of_ble_eq_true rfl, Nat.le_of_ble_eq_true rfl⟩ ?_
          refine G_name (fun S4_17 hS4_17 => ?_)
          refine G_iinc_e (pc := 20) 2 (fun zw => [(2, .int (zI zw)), (0, .ref (ad (18, g, p, 0))), (1, .int (zI o))]) dX4_moveTo_20 rfl (by decide) (fun _ => rfl) (fun v20 e20 => ?_)
          refine G_goto (pc := 23) 2 dX4_moveTo_23 (by decide) ?_
          refine G_perm (lv' := [(0, .ref (ad (18, g, p, 0))), (1, .int (zI o)), (2, .int (zI v20))]) [1, 2, 0] rfl ?_
          exact ih2 v20 S4_17 ⟨by omega, by rw [e20, ← hq, lp_step (a := k) (n := o) (by omega)]; first | rw [show zm1 g p k T = T from if_neg c12] | rw [show zm1 g p k T = S4_17 by rw [hS4_17]; exact if_pos c12], by first | exact hTW | (rw [hS4_17]; exact zfg_W hTW)⟩ (by omega)
  refine G_perm (lv' := [(0, .ref (ad (18, g, p, 0))), (1, .int (zI o)), (2, .int (zI v1))]) [1, 2, 0] rfl ?_
  exact L2 _ v1 S ⟨by omega, by rw [e1], hW⟩ (Nat.lt_succ_self _)
set_option maxHeartbeats 4000000 in
set_option maxRecDepth 100000 in
theorem c_X4_handTo {l : Launch} {Δ : zDl} {ad : zK → Nat} {P : zP} {S : zS} {X : zMem} {g p x : Int} (hP : zWP P) (hg : 0 ≤ g ∧ g < P 3 0 0) (hp : 0 ≤ p ∧ p < P 1 (P 4 g 0) 0) (hW : zWS P S) (hx : zR x) : zMn l Δ yX4_handTo cX4_handTo 3 none 3 0 0 [.ref (ad (18, g, p, 0)), .int (zI x)] ad (mm Δ ad P S X) (zD none ad (mm Δ ad P (zht P S g p x) X)) := by
  refine zMn_of (by decide) (Nat.le_of_ble_eq_true rfl) (fun Γ hl hΔ hF => ?_)
  subst hl hΔ
  show G Γ _ _ _ RX4 _ _ _ _ _ [(0, .ref (ad (18, g, p, 0))), (1, .int (zI x))] []
  have hG := hP.g hg
  have hM := hP.m hG hp
  have hN := hP.t hG
  have hS := hW.R
  have hW5 := hW.m hg hp
  refine G_iload_n (pc := 0) 1 1 dX4_handTo_0 rfl rfl ?_
  refine G_aload_n (pc := 1) 0 0 dX4_handTo_1 rfl rfl ?_
  refine G_getf (pc := 2) fl_X4_21 dX4_handTo_2 (mg_18 (by first | assumption | omega | exact ⟨by omega, by omega⟩ | exact hS _ _ | exact hT _ _)) rfl ?_
  refine G_icmp_ne (pc := 5) 9 dX4_handTo_5 (by decide) (by first | exact hS _ _ | exact hT _ _ | exact ⟨by omega, by omega⟩ | assumption) (by first | exact hS _ _ | exact hT _ _ | exact ⟨by omega, by omega⟩ | assumption) (fun c5 => ?_) (fun c5 => ?_)
  · refine G_aload_n (pc := 9) 0 0 dX4_handTo_9 rfl rfl ?_
    refine G_iload_n (pc := 10) 1 1 dX4_handTo_10 rfl rfl ?_
    refine G_putf (pc := 11) fl_X4_21 fp_X4_4 dX4_handTo_11 (mg_18 (by first | assumption | omega | exact ⟨by omega, by omega⟩ | exact hS _ _ | exact hT _ _)) (Nat.le_of_ble_eq_true rfl) rfl rfl (mp_18_4 _ (by first | assumption | omega | exact ⟨by omega, by omega⟩ | exact hS _ _ | exact hT _ _)) ?_
    refine G_name (fun S1_11 hS1_11 => ?_)
    refine G_iconst (pc := 14) dX4_handTo_14 ?_
    refine G_istore_ne (pc := 15) 2 (fun zw => [(2, .int (zI zw)), (0, .ref (ad (18, g, p, 0))), (1, .int (zI x))]) dX4_handTo_15 rfl (by decide) (fun _ => rfl) (fun v15 e15 => ?_)
    have L16 : ∀ (n : Nat) (k : Int) (T : zS), ((0 ≤ k ∧ k ≤ P 2 (P 4 g 0) p) ∧ lp (zh1 g p) k (P 2 (P 4 g 0) p) T = lp (zh1 g p) 0 (P 2 (P 4 g 0) p) (zst S (18, g, p, 0) 4 x) ∧ zWS P T) → (P 2 (P 4 g 0) p - k).toNat < n → G Γ (zRm 3 0 0) cX4_handTo 3 RX4 ad (mm (z_d Γ) ad P T X) 0 0 16 [(0, .ref (ad (18, g, p, 0))), (1, .int (zI x)), (2, .int (zI k))] [] := by
      intro n
      induction n with
      | zero => intro k T _ hn; omega
      | succ n ih16 =>
        intro k T hi16 hn16
        obtain ⟨hk, hq, hTW⟩ := hi16
        have hT := hTW.R
        refine G_iload_n (pc := 16) 2 2 dX4_handTo_16 rfl rfl ?_
        refine G_aload_n (pc := 17) 0 0 dX4_handTo_17 rfl rfl ?_
        refine G_getf (pc := 18) fl_X4_25 dX4_handTo_18 (mg_18 (by first | assumption | omega | exact ⟨by omega, by omega⟩ | exact hS _ _ | exact hT _ _)) rfl ?_
        refine G_callVd (pc := 21) gk_X4_44 dX4_handTo_21 (mg_11 (by first | assumption | omega | exact ⟨by omega, by omega⟩ | exact hS _ _ | exact hT _ _)) rfl (c_X3_size (by first | assumption | omega | exact ⟨by omega, by omega⟩ | exact hS _ _ | exact hT _ _) (by first | assumption | omega | exact ⟨by omega, by omega⟩ | exact hS _ _ | exact hT _ _)) rfl rfl (Nat.le_of_ble_eq_true rfl) ⟨⟨Nat.le_of_ble_eq_true rfl, Nat.le_of_ble_eq_true rfl⟩, Nat.le_of_ble_eq_true rfl, Nat.le_of_ble_eq_true rfl⟩ ?_
        refine G_icmp_ge (pc := 24) 48 dX4_handTo_24 (by decide) (by first | exact hS _ _ | exact hT _ _ | exact ⟨by omega, by omega⟩ | assumption) (by first | exact hS _ _ | exact hT _ _ | exact ⟨by omega, by omega⟩ | assumption) (fun c24 => ?_) (fun c24 => ?_)
        · refine G_aload_n (pc := 48) 0 0 dX4_handTo_48 rfl rfl ?_
          refine G_aload_n (pc := 49) 0 0 dX4_handTo_49 rfl rfl ?_
          refine G_getf (pc := 50) fl_X4_34 dX4_handTo_50 (mg_18 (by first | assumption | omega | exact ⟨by omega, by omega⟩ | exact hS _ _ | exact hT _ _)) rfl ?_
          refine G_putf (pc := 53) fl_X4_37 fp_X4_6 dX4_handTo_53 (mg_18 (by first | assumption | omega | exact ⟨by omega, by omega⟩ | exact hS _ _ | exact hT _ _)) (Nat.le_of_ble_eq_true rfl) rfl rfl (mp_18_6 _ (by first | assumption | omega | exact ⟨by omega, by omega⟩ | exact hS _ _ | exact hT _ _)) ?_
          refine G_name (fun S2_53 hS2_53 => ?_)
          exact G_vret_d (pc := 56) hF dX4_handTo_56 ⟨Nat.le_of_ble_eq_true rfl, Nat.le_of_ble_eq_true rfl⟩ (by unfold zht; rw [if_neg c5, ← hq, lp_end (by omega), hS2_53])
        · refine G_aload_n (pc := 27) 0 0 dX4_handTo_27 rfl rfl ?_
          refine G_getf (pc := 28) fl_X4_9 dX4_handTo_28 (mg_18 (by first | assumption | omega | exact ⟨by omega, by omega⟩ | exact hS _ _ | exact hT _ _)) rfl ?_
          refine G_iload_n (pc := 31) 2 2 dX4_handTo_31 rfl rfl ?_
          refine G_iald (pc := 32) dX4_handTo_32 (mg_19 (by first | assumption | omega | exact ⟨by omega, by omega⟩ | exact hS _ _ | exact hT _ _)) ⟨by omega, by omega, by omega, by omega⟩ ?_
          refine G_iconst (pc := 33) dX4_handTo_33 ?_
          refine G_icmp_ne (pc := 34) 42 dX4_handTo_34 (by decide) (by first | exact hS _ _ | exact hT _ _ | exact ⟨by omega, by omega⟩ | assumption) (by first | exact hS _ _ | exact hT _ _ | exact ⟨by omega, by omega⟩ | assumption) (fun c34 => ?_) (fun c34 => ?_)
          · refine G_iinc_e (pc := 42) 2 (fun zw => [(2, .int (zI zw)), (0, .ref (ad (18, g, p, 0))), (1, .int (zI x))]) dX4_handTo_42 rfl (by decide) (fun _ => rfl) (fun v42 e42 => ?_)
            refine G_goto (pc := 45) 16 dX4_handTo_45 (by decide) ?_
            refine G_perm (lv' := [(0, .ref (ad (18, g, p, 0))), (1, .int (zI x)), (2, .int (zI v42))]) [1, 2, 0] rfl ?_
            exact ih16 v42 T ⟨by omega, by rw [e42, ← hq, lp_step (a := k) (n := P 2 (P 4 g 0) p) (by omega)]; first | rw [show zh1 g p k T = T from if_neg c34] | rw [show zh1 g p k T = T by rw [hT]; exact if_pos c34], by first | exact hTW | (rw [hT]; exact zfg_W hTW)⟩ (by omega)
          · refine G_aload_n (pc := 37) 0 0 dX4_handTo_37 rfl rfl ?_
            refine G_iload_n (pc := 38) 2 2 dX4_handTo_38 rfl rfl ?_
            refine G_callVv (pc := 39) gk_X4_64 dX4_handTo_39 (mg_18 (by first | assumption | omega | exact ⟨by omega, by omega⟩ | exact hS _ _ | exact hT _ _)) rfl (c_X4_forget (by first | assumption | omega | exact ⟨by omega, by omega⟩ | exact hS _ _ | exact hT _ _) (by first | assumption | omega | exact ⟨by omega, by omega⟩ | exact hS _ _ | exact hT _ _) (by first | assumption | omega | exact ⟨by omega, by omega⟩ | exact hS _ _ | exact hT _ _)) rfl rfl (Nat.le_of_ble_eq_true rfl) ⟨⟨Nat.le_of_ble_eq_true rfl, Nat.le_of_ble_eq_true rfl⟩, Nat.le_of_ble_eq_true rfl, Nat.le_of_ble_eq_true rfl⟩ ?_
            refine G_name (fun S3_39 hS3_39 => ?_)
            refine G_iinc_e (pc := 42) 2 (fun zw => [(2, .int (zI zw)), (0, .ref (ad (18, g, p, 0))), (1, .int (zI x))]) dX4_handTo_42 rfl (by decide) (fun _ => rfl) (fun v42 e42 => ?_)
            refine G_goto (pc := 45) 16 dX4_handTo_45 (by decide) ?_
            refine G_perm (lv' := [(0, .ref (ad (18, g, p, 0))), (1, .int (zI x)), (2, .int (zI v42))]) [1, 2, 0] rfl ?_
            exact ih16 v42 S3_39 ⟨by omega, by rw [e42, ← hq, lp_step (a := k) (n := P 2 (P 4 g 0) p) (by omega)]; first | rw [show zh1 g p k T = T from if_neg c34] | rw [show zh1 g p k T = S3_39 by rw [hS3_39]; exact if_pos c34], by first | exact hTW | (rw [hS3_39]; exact zfg_W hTW)⟩ (by omega)
    refine G_perm (lv' := [(0, .ref (ad (18, g, p, 0))), (1, .int (zI x)), (2, .int (zI v15))]) [1, 2, 0] rfl ?_
    exact L16 _ v15 S1_11 ⟨by omega, by rw [e15, hS1_11], by rw [hS1_11]; exact hW.s18 hx (fun q => by omega)⟩ (Nat.lt_succ_self _)
  · exact G_vret_d (pc := 8) hF dX4_handTo_8 ⟨Nat.le_of_ble_eq_true rfl, Nat.le_of_ble_eq_true rfl⟩ (by unfold zht; rw [if_pos c5])
set_option maxHeartbeats 4000000 in
set_option maxRecDepth 100000 in
theorem c_X4_keepUp {l : Launch} {Δ : zDl} {ad : zK → Nat} {P : zP} {S : zS} {X : zMem} {g p : Int} (hP : zWP P) (hg : 0 ≤ g ∧ g < P 3 0 0) (hp : 0 ≤ p ∧ p < P 1 (P 4 g 0) 0) (hW : zWS P S) : zMn l Δ yX4_keepUp cX4_keepUp 2 none 6 0 0 [.ref (ad (18, g, p, 0))] ad (mm Δ ad P S X) (zD none ad (mm Δ ad P (zku P S g p) X)) := by
  refine zMn_of (by decide) (Nat.le_of_ble_eq_true rfl) (fun Γ hl hΔ hF => ?_)
  subst hl hΔ
  show G Γ _ _ _ RX4 _ _ _ _ _ [(0, .ref (ad (18, g, p, 0)))] []
  have hG := hP.g hg
  have hM := hP.m hG hp
  have hN := hP.t hG
  have hS := hW.R
  have hW5 := hW.m hg hp
  refine G_iconst (pc := 0) dX4_keepUp_0 ?_
  refine G_istore_ne (pc := 1) 1 (fun zw => [(1, .int (zI zw)), (0, .ref (ad (18, g, p, 0)))]) dX4_keepUp_1 rfl (by decide) (fun _ => rfl) (fun v1 e1 => ?_)
  have L2 : ∀ (n : Nat) (k : Int) (T : zS), ((0 ≤ k ∧ k ≤ P 2 (P 4 g 0) p) ∧ lp (zk1 P g p) k (P 2 (P 4 g 0) p) T = lp (zk1 P g p) 0 (P 2 (P 4 g 0) p) S ∧ zWS P T) → (P 2 (P 4 g 0) p - k).toNat < n → G Γ (zRm 6 0 0) cX4_keepUp 2 RX4 ad (mm (z_d Γ) ad P T X) 0 0 2 [(0, .ref (ad (18, g, p, 0))), (1, .int (zI k))] [] := by
    intro n
    induction n with
    | zero => intro k T _ hn; omega
    | succ n ih2 =>
      intro k T hi2 hn2
      obtain ⟨hk, hq, hTW⟩ := hi2
      have hT := hTW.R
      have hT5 := hTW.m hg hp
      refine G_iload_n (pc := 2) 1 1 dX4_keepUp_2 rfl rfl ?_
      refine G_aload_n (pc := 3) 0 0 dX4_keepUp_3 rfl rfl ?_
      refine G_getf (pc := 4) fl_X4_25 dX4_keepUp_4 (mg_18 (by first | assumption | omega | exact ⟨by omega, by omega⟩ | exact hS _ _ | exact hT _ _)) rfl ?_
      refine G_callVd (pc := 7) gk_X4_44 dX4_keepUp_7 (mg_11 (by first | assumption | omega | exact ⟨by omega, by omega⟩ | exact hS _ _ | exact hT _ _)) rfl (c_X3_size (by first | assumption | omega | exact ⟨by omega, by omega⟩ | exact hS _ _ | exact hT _ _) (by first | assumption | omega | exact ⟨by omega, by omega⟩ | exact hS _ _ | exact hT _ _)) rfl rfl (Nat.le_of_ble_eq_true rfl) ⟨⟨Nat.le_of_ble_eq_true rfl, Nat.le_of_ble_eq_true rfl⟩, Nat.le_of_ble_eq_true rfl, Nat.le_of_ble_eq_true rfl⟩ ?_
      refine G_icmp_ge (pc := 10) 46 dX4_keepUp_10 (by decide) (by first | exact hS _ _ | exact hT _ _ | exact ⟨by omega, by omega⟩ | assumption) (by first | exact hS _ _ | exact hT _ _ | exact ⟨by omega, by omega⟩ | assumption) (fun c10 => ?_) (fun c10 => ?_)
      · have L46 : ∀ (n : Nat) (T2 : zS), (zmk P g p (P 2 (P 4 g 0) p - T2 (18, g, p, 0) 5).toNat T2 = zmk P g p (P 2 (P 4 g 0) p - T (18, g, p, 0) 5).toNat T ∧ zWS P T2) → (P 2 (P 4 g 0) p - T2 (18, g, p, 0) 5).toNat < n → G Γ (zRm 6 0 0) cX4_keepUp 2 RX4 ad (mm (z_d Γ) ad P T2 X) 0 0 46 [(0, .ref (ad (18, g, p, 0)))] [] := by
          intro n
          induction n with
          | zero => intro  T2 _ hn; omega
          | succ n ih46 =>
            intro  T2 hi46 hn46
            obtain ⟨hq2, hTW2⟩ := hi46
            have hT2 := hTW2.R
            have hT25 := hTW2.m hg hp
            refine G_aload_n (pc := 46) 0 0 dX4_keepUp_46 rfl rfl ?_
            refine G_getf (pc := 47) fl_X4_34 dX4_keepUp_47 (mg_18 (by first | assumption | omega | exact ⟨by omega, by omega⟩ | exact hS _ _ | exact hT _ _)) rfl ?_
            refine G_aload_n (pc := 50) 0 0 dX4_keepUp_50 rfl rfl ?_
            refine G_getf (pc := 51) fl_X4_25 dX4_keepUp_51 (mg_18 (by first | assumption | omega | exact ⟨by omega, by omega⟩ | exact hS _ _ | exact hT _ _)) rfl ?_
            refine G_callVd (pc := 54) gk_X4_44 dX4_keepUp_54 (mg_11 (by first | assumption | omega | exact ⟨by omega, by omega⟩ | exact hS _ _ | exact hT _ _)) rfl (c_X3_size (by first | assumption | omega | exact ⟨by omega, by omega⟩ | exact hS _ _ | exact hT _ _) (by first | assumption | omega | exact ⟨by omega, by omega⟩ | exact hS _ _ | exact hT _ _)) rfl rfl (Nat.le_of_ble_eq_true rfl) ⟨⟨Nat.le_of_ble_eq_true rfl, Nat.le_of_ble_eq_true rfl⟩, Nat.le_of_ble_eq_true rfl, Nat.le_of_ble_eq_true rfl⟩ ?_
            refine G_icmp_ge (pc := 57) 84 dX4_keepUp_57 (by decide) (by first | exact hS _ _ | exact hT _ _ | exact ⟨by omega, by omega⟩ | assumption) (by first | exact hS _ _ | exact hT _ _ | exact ⟨by omega, by omega⟩ | assumption) (fun c57 => ?_) (fun c57 => ?_)
            · have hz6 : T2 = zmk P g p (P 2 (P 4 g 0) p - T (18, g, p, 0) 5).toNat T := by rw [← hq2, zmk_stop _ (fun h => by first | omega | exact c68 h.2)]
              have hz7 : T = lp (zk1 P g p) 0 (P 2 (P 4 g 0) p) S := by rw [← hq, lp_end (by omega)]
              refine G_aload_n (pc := 84) 0 0 dX4_keepUp_84 rfl rfl ?_
              refine G_aload_n (pc := 85) 0 0 dX4_keepUp_85 rfl rfl ?_
              refine G_getf (pc := 86) fl_X4_37 dX4_keepUp_86 (mg_18 (by first | assumption | omega | exact ⟨by omega, by omega⟩ | exact hS _ _ | exact hT _ _)) rfl ?_
              refine G_aload_n (pc := 89) 0 0 dX4_keepUp_89 rfl rfl ?_
              refine G_getf (pc := 90) fl_X4_34 dX4_keepUp_90 (mg_18 (by first | assumption | omega | exact ⟨by omega, by omega⟩ | exact hS _ _ | exact hT _ _)) rfl ?_
              refine G_mmax (pc := 93) mx_X4_75 dX4_keepUp_93 (by first | exact hS _ _ | exact hT _ _ | exact ⟨by omega, by omega⟩ | assumption) (by first | exact hS _ _ | exact hT _ _ | exact ⟨by omega, by omega⟩ | assumption) ⟨⟨Nat.le_of_ble_eq_true rfl, Nat.le_of_ble_eq_true rfl⟩, Nat.le_of_ble_eq_true rfl, Nat.le_of_ble_eq_true rfl⟩ ?_
              refine G_putf (pc := 96) fl_X4_37 fp_X4_6 dX4_keepUp_96 (mg_18 (by first | assumption | omega | exact ⟨by omega, by omega⟩ | exact hS _ _ | exact hT _ _)) (Nat.le_of_ble_eq_true rfl) rfl rfl (mp_18_6 _ (by first | assumption | omega | exact ⟨by omega, by omega⟩ | exact hS _ _ | exact hT _ _)) ?_
              refine G_name (fun S1_96 hS1_96 => ?_)
              exact G_vret_d (pc := 99) hF dX4_keepUp_99 ⟨Nat.le_of_ble_eq_true rfl, Nat.le_of_ble_eq_true rfl⟩ (by rw [hS1_96]; unfold zku; rw [← hz7, ← hz6])
            · refine G_aload_n (pc := 60) 0 0 dX4_keepUp_60 rfl rfl ?_
              refine G_aload_n (pc := 61) 0 0 dX4_keepUp_61 rfl rfl ?_
              refine G_getf (pc := 62) fl_X4_34 dX4_keepUp_62 (mg_18 (by first | assumption | omega | exact ⟨by omega, by omega⟩ | exact hS _ _ | exact hT _ _)) rfl ?_
              refine G_callVd (pc := 65) gk_X4_72 dX4_keepUp_65 (mg_18 (by first | assumption | omega | exact ⟨by omega, by omega⟩ | exact hS _ _ | exact hT _ _)) rfl (c_X4_isBehind (by first | assumption | omega | exact ⟨by omega, by omega⟩ | exact hS _ _ | exact hT _ _) (by first | assumption | omega | exact ⟨by omega, by omega⟩ | exact hS _ _ | exact hT _ _) (by first | assumption | omega | exact ⟨by omega, by omega⟩ | exact hS _ _ | exact hT _ _) (by first | assumption | omega | exact ⟨by omega, by omega⟩ | exact hS _ _ | exact hT _ _) (by first | assumption | omega | exact ⟨by omega, by omega⟩ | exact hS _ _ | exact hT _ _)) rfl rfl (Nat.le_of_ble_eq_true rfl) ⟨⟨Nat.le_of_ble_eq_true rfl, Nat.le_of_ble_eq_true rfl⟩, Nat.le_of_ble_eq_true rfl, Nat.le_of_ble_eq_true rfl⟩ ?_
              refine G_if_eq_b (pc := 68) 84 dX4_keepUp_68 (by decide) (fun c68 => ?_) (fun c68 => ?_)
              · have hz6 : T2 = zmk P g p (P 2 (P 4 g 0) p - T (18, g, p, 0) 5).toNat T := by rw [← hq2, zmk_stop _ (fun h => by first | omega | exact c68 h.2)]
                have hz7 : T = lp (zk1 P g p) 0 (P 2 (P 4 g 0) p) S := by rw [← hq, lp_end (by omega)]
                refine G_aload_n (pc := 84) 0 0 dX4_keepUp_84 rfl rfl ?_
                refine G_aload_n (pc := 85) 0 0 dX4_keepUp_85 rfl rfl ?_
                refine G_getf (pc := 86) fl_X4_37 dX4_keepUp_86 (mg_18 (by first | assumption | omega | exact ⟨by omega, by omega⟩ | exact hS _ _ | exact hT _ _)) rfl ?_
                refine G_aload_n (pc := 89) 0 0 dX4_keepUp_89 rfl rfl ?_
                refine G_getf (pc := 90) fl_X4_34 dX4_keepUp_90 (mg_18 (by first | assumption | omega | exact ⟨by omega, by omega⟩ | exact hS _ _ | exact hT _ _)) rfl ?_
                refine G_mmax (pc := 93) mx_X4_75 dX4_keepUp_93 (by first | exact hS _ _ | exact hT _ _ | exact ⟨by omega, by omega⟩ | assumption) (by first | exact hS _ _ | exact hT _ _ | exact ⟨by omega, by omega⟩ | assumption) ⟨⟨Nat.le_of_ble_eq_true rfl, Nat.le_of_ble_eq_true rfl⟩, Nat.le_of_ble_eq_true rfl, Nat.le_of_ble_eq_true rfl⟩ ?_
                refine G_putf (pc := 96) fl_X4_37 fp_X4_6 dX4_keepUp_96 (mg_18 (by first | assumption | omega | exact ⟨by omega, by omega⟩ | exact hS _ _ | exact hT _ _)) (Nat.le_of_ble_eq_true rfl) rfl rfl (mp_18_6 _ (by first | assumption | omega | exact ⟨by omega, by omega⟩ | exact hS _ _ | exact hT _ _)) ?_
                refine G_name (fun S2_96 hS2_96 => ?_)
                exact G_vret_d (pc := 99) hF dX4_keepUp_99 ⟨Nat.le_of_ble_eq_true rfl, Nat.le_of_ble_eq_true rfl⟩ (by rw [hS2_96]; unfold zku; rw [← hz7, ← hz6])
              · refine G_aload_n (pc := 71) 0 0 dX4_keepUp_71 rfl rfl ?_
                refine G_dup (pc := 72) dX4_keepUp_72 rfl ?_
                refine G_getf (pc := 73) fl_X4_34 dX4_keepUp_73 (mg_18 (by first | assumption | omega | exact ⟨by omega, by omega⟩ | exact hS _ _ | exact hT _ _)) rfl ?_
                refine G_iconst (pc := 76) dX4_keepUp_76 ?_
                refine G_iadd (pc := 77) dX4_keepUp_77 ?_
                refine G_putf (pc := 78) fl_X4_34 fp_X4_5 dX4_keepUp_78 (mg_18 (by first | assumption | omega | exact ⟨by omega, by omega⟩ | exact hS _ _ | exact hT _ _)) (Nat.le_of_ble_eq_true rfl) rfl rfl (mp_18_5 _ (by first | assumption | omega | exact ⟨by omega, by omega⟩ | exact hS _ _ | exact hT _ _)) ?_
                refine G_name (fun S3_78 hS3_78 => ?_)
                have hz5 : S3_78 (18, g, p, 0) 5 = T2 (18, g, p, 0) 5 + 1 := by rw [hS3_78, zst_s]
                refine G_goto (pc := 81) 46 dX4_keepUp_81 (by decide) ?_
                refine G_perm (lv' := [(0, .ref (ad (18, g, p, 0)))]) [0] rfl ?_
                exact ih46  S3_78 ⟨by rw [← hq2, show (P 2 (P 4 g 0) p - T2 (18, g, p, 0) 5).toNat = (P 2 (P 4 g 0) p - S3_78 (18, g, p, 0) 5).toNat + 1 by omega, zmk_go _ ⟨by omega, c68⟩, hS3_78], by rw [hS3_78]; exact hTW2.s18 ⟨by omega, by omega⟩ (fun _ _ _ => by omega)⟩ (by omega)
        refine G_perm (lv' := [(0, .ref (ad (18, g, p, 0)))]) [0] rfl ?_
        exact L46 _  T ⟨rfl, hTW⟩ (Nat.lt_succ_self _)
      · refine G_aload_n (pc := 13) 0 0 dX4_keepUp_13 rfl rfl ?_
        refine G_getf (pc := 14) fl_X4_25 dX4_keepUp_14 (mg_18 (by first | assumption | omega | exact ⟨by omega, by omega⟩ | exact hS _ _ | exact hT _ _)) rfl ?_
        refine G_iload_n (pc := 17) 1 1 dX4_keepUp_17 rfl rfl ?_
        refine G_callVd (pc := 18) gk_X4_51 dX4_keepUp_18 (mg_11 (by first | assumption | omega | exact ⟨by omega, by omega⟩ | exact hS _ _ | exact hT _ _)) rfl (c_X3_at (by first | assumption | omega | exact ⟨by omega, by omega⟩ | exact hS _ _ | exact hT _ _) (by first | assumption | omega | exact ⟨by omega, by omega⟩ | exact hS _ _ | exact hT _ _) (by first | assumption | omega | exact ⟨by omega, by omega⟩ | exact hS _ _ | exact hT _ _) (by first | assumption | omega | exact ⟨by omega, by omega⟩ | exact hS _ _ | exact hT _ _)) rfl rfl (Nat.le_of_ble_eq_true rfl) ⟨⟨Nat.le_of_ble_eq_true rfl, Nat.le_of_ble_eq_true rfl⟩, Nat.le_of_ble_eq_true rfl, Nat.le_of_ble_eq_true rfl⟩ ?_
        refine G_getf (pc := 21) fl_X4_68 dX4_keepUp_21 (mg_14 (by first | assumption | omega | exact ⟨by omega, by omega⟩ | exact hS _ _ | exact hT _ _)) rfl ?_
        refine G_if_eq (pc := 24) 40 dX4_keepUp_24 (by decide) (by first | exact hS _ _ | exact hT _ _ | exact ⟨by omega, by omega⟩ | assumption) (fun c24 => ?_) (fun c24 => ?_)
        · have hz : zk1 P g p k T = T := if_neg (fun h => h.1 c24)
          first | (have hz : zk1 P g p k T = T := by rw [hT]; exact if_pos ⟨c24, c32⟩) | skip
          refine G_iinc_e (pc := 40) 1 (fun zw => [(1, .int (zI zw)), (0, .ref (ad (18, g, p, 0)))]) dX4_keepUp_40 rfl (by decide) (fun _ => rfl) (fun v40 e40 => ?_)
          refine G_goto (pc := 43) 2 dX4_keepUp_43 (by decide) ?_
          refine G_perm (lv' := [(0, .ref (ad (18, g, p, 0))), (1, .int (zI v40))]) [1, 0] rfl ?_
          exact ih2 v40 T ⟨by omega, by rw [e40, ← hq, lp_step (a := k) (n := P 2 (P 4 g 0) p) (by omega)]; rw [hz], by first | exact hTW | (rw [hT]; exact zfg_W hTW)⟩ (by omega)
        · refine G_aload_n (pc := 27) 0 0 dX4_keepUp_27 rfl rfl ?_
          refine G_iload_n (pc := 28) 1 1 dX4_keepUp_28 rfl rfl ?_
          refine G_callVd (pc := 29) gk_X4_61 dX4_keepUp_29 (mg_18 (by first | assumption | omega | exact ⟨by omega, by omega⟩ | exact hS _ _ | exact hT _ _)) rfl (c_X4_isUnderway (by first | assumption | omega | exact ⟨by omega, by omega⟩ | exact hS _ _ | exact hT _ _) (by first | assumption | omega | exact ⟨by omega, by omega⟩ | exact hS _ _ | exact hT _ _) (by first | assumption | omega | exact ⟨by omega, by omega⟩ | exact hS _ _ | exact hT _ _) (by first | assumption | omega | exact ⟨by omega, by omega⟩ | exact hS _ _ | exact hT _ _)) rfl rfl (Nat.le_of_ble_eq_true rfl) ⟨⟨Nat.le_of_ble_eq_true rfl, Nat.le_of_ble_eq_true rfl⟩, Nat.le_of_ble_eq_true rfl, Nat.le_of_ble_eq_true rfl⟩ ?_
          refine G_if_eq_b (pc := 32) 40 dX4_keepUp_32 (by decide) (fun c32 => ?_) (fun c32 => ?_)
          · have hz : zk1 P g p k T = T := if_neg (fun h => c32 h.2)
            first | (have hz : zk1 P g p k T = T := by rw [hT]; exact if_pos ⟨c24, c32⟩) | skip
            refine G_iinc_e (pc := 40) 1 (fun zw => [(1, .int (zI zw)), (0, .ref (ad (18, g, p, 0)))]) dX4_keepUp_40 rfl (by decide) (fun _ => rfl) (fun v40 e40 => ?_)
            refine G_goto (pc := 43) 2 dX4_keepUp_43 (by decide) ?_
            refine G_perm (lv' := [(0, .ref (ad (18, g, p, 0))), (1, .int (zI v40))]) [1, 0] rfl ?_
            exact ih2 v40 T ⟨by omega, by rw [e40, ← hq, lp_step (a := k) (n := P 2 (P 4 g 0) p) (by omega)]; rw [hz], by first | exact hTW | (rw [hT]; exact zfg_W hTW)⟩ (by omega)
          · refine G_aload_n (pc := 35) 0 0 dX4_keepUp_35 rfl rfl ?_
            refine G_iload_n (pc := 36) 1 1 dX4_keepUp_36 rfl rfl ?_
            refine G_callVv (pc := 37) gk_X4_64 dX4_keepUp_37 (mg_18 (by first | assumption | omega | exact ⟨by omega, by omega⟩ | exact hS _ _ | exact hT _ _)) rfl (c_X4_forget (by first | assumption | omega | exact ⟨by omega, by omega⟩ | exact hS _ _ | exact hT _ _) (by first | assumption | omega | exact ⟨by omega, by omega⟩ | exact hS _ _ | exact hT _ _) (by first | assumption | omega | exact ⟨by omega, by omega⟩ | exact hS _ _ | exact hT _ _)) rfl rfl (Nat.le_of_ble_eq_true rfl) ⟨⟨Nat.le_of_ble_eq_true rfl, Nat.le_of_ble_eq_true rfl⟩, Nat.le_of_ble_eq_true rfl, Nat.le_of_ble_eq_true rfl⟩ ?_
            refine G_name (fun S4_37 hS4_37 => ?_)
            first | (have hz : zk1 P g p k T = S4_37 := by rw [hS4_37]; exact if_pos ⟨c24, c32⟩) | skip
            refine G_iinc_e (pc := 40) 1 (fun zw => [(1, .int (zI zw)), (0, .ref (ad (18, g, p, 0)))]) dX4_keepUp_40 rfl (by decide) (fun _ => rfl) (fun v40 e40 => ?_)
            refine G_goto (pc := 43) 2 dX4_keepUp_43 (by decide) ?_
            refine G_perm (lv' := [(0, .ref (ad (18, g, p, 0))), (1, .int (zI v40))]) [1, 0] rfl ?_
            exact ih2 v40 S4_37 ⟨by omega, by rw [e40, ← hq, lp_step (a := k) (n := P 2 (P 4 g 0) p) (by omega)]; rw [hz], by first | exact hTW | (rw [hS4_37]; exact zfg_W hTW)⟩ (by omega)
  refine G_perm (lv' := [(0, .ref (ad (18, g, p, 0))), (1, .int (zI v1))]) [1, 0] rfl ?_
  exact L2 _ v1 S ⟨by omega, by rw [e1], hW⟩ (Nat.lt_succ_self _)
