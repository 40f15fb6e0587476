set_option maxHeartbeats 4000000 in
set_option maxRecDepth 100000 in
theorem c_X7_join_x {l : Launch} {Δ : zDl} {ad : zK → Nat} {P : zP} {S : zS} {X : zMem} {Q : zP} {g r b : Int} (hV : zWM Q S) (h61 : Q 61 0 0 = P 61 0 0) (hX0 : X (90, 0, 0, 0) = none) (hrg : zR g) (hrr : zR r) (hrb : zR b) (hn : ¬ ((0 ≤ g ∧ g < Q 3 0 0) ∧ (0 ≤ r ∧ r < 6))) : zMn l Δ yX7_join cX7_join 10 (some .boolean) 9 0 0 [.ref (ad (40, 0, 0, 0)), .int (zI g), .int (zI r), .int (zI b)] ad (mm Δ ad P S X) (zD (some (.int (zI 0))) ad (mm Δ ad P (zst S (40, 0, 0, 0) 0 1) X)) := by
  refine zMn_of (by decide) (Nat.le_of_ble_eq_true rfl) (fun Γ hl hΔ hF => ?_)
  subst hl hΔ
  show G Γ _ _ _ RX7 _ _ _ _ _ [(0, .ref (ad (40, 0, 0, 0))), (1, .int (zI g)), (2, .int (zI r)), (3, .int (zI b))] []
  have hq := hV.q
  have h23 := hV.g23
  refine G_aload_n (pc := 0) 0 0 dX7_join_0 rfl rfl ?_
  refine G_iconst (pc := 1) dX7_join_1 ?_
  refine G_putf (pc := 2) fl_X7_93 fp_X7_0 dX7_join_2 mg_40 (Nat.le_of_ble_eq_true rfl) rfl rfl (mp_40_0 _) ?_
  refine G_name (fun S1_2 hS1_2 => ?_)
  have hVS1_2 : zWM Q S1_2 := by rw [hS1_2]; exact hV.s40_0 (by first | assumption | exact ⟨by omega, by omega⟩)
  have h235 := hVS1_2.g23
  refine G_aload_n (pc := 5) 0 0 dX7_join_5 rfl rfl ?_
  refine G_iload_n (pc := 6) 1 1 dX7_join_6 rfl rfl ?_
  refine G_callVd (pc := 7) gk_X7_110 dX7_join_7 mg_40 rfl (c_X7_isGroup (Q := Q) (by first | assumption | omega | exact ⟨by omega, by omega⟩ | exact hS _ _ | exact hT _ _) (by first | assumption | omega | exact ⟨by omega, by omega⟩ | exact hS _ _ | exact hT _ _)) rfl rfl (Nat.le_of_ble_eq_true rfl) ⟨⟨Nat.le_of_ble_eq_true rfl, Nat.le_of_ble_eq_true rfl⟩, Nat.le_of_ble_eq_true rfl, Nat.le_of_ble_eq_true rfl⟩ ?_
  refine G_if_eq_b (pc := 10) 20 dX7_join_10 (by decide) (fun c10 => ?_) (fun c10 => ?_)
  · refine G_aload_n (pc := 20) 0 0 dX7_join_20 rfl rfl ?_
    refine G_iconst (pc := 21) dX7_join_21 ?_
    refine G_callVd (pc := 22) gk_X7_194 dX7_join_22 mg_40 rfl (c_X7_isNot (Q := Q) (by first | assumption | omega | exact ⟨by omega, by omega⟩ | exact hS _ _ | exact hT _ _) (by first | assumption | omega | exact ⟨by omega, by omega⟩ | exact hS _ _ | exact hT _ _)) rfl rfl (Nat.le_of_ble_eq_true rfl) ⟨⟨Nat.le_of_ble_eq_true rfl, Nat.le_of_ble_eq_true rfl⟩, Nat.le_of_ble_eq_true rfl, Nat.le_of_ble_eq_true rfl⟩ ?_
    refine G_name (fun S2_22 hS2_22 => ?_)
    have hVS2_22 : zWM Q S2_22 := by rw [hS2_22]; exact hVS1_2.s40_0 (by first | assumption | exact ⟨by omega, by omega⟩)
    exact G_zret_m (pc := 25) hF dX7_join_25 ⟨Nat.le_of_ble_eq_true rfl, Nat.le_of_ble_eq_true rfl⟩ (by first | exact zb_ite | omega) rfl (by rw [hS2_22, hS1_2, zst_zst])
  · refine G_iload_n (pc := 13) 2 2 dX7_join_13 rfl rfl ?_
    refine G_callSd (pc := 14) gk_X7_191 dX7_join_14 (c_X7_isReader (by first | assumption | omega | exact ⟨by omega, by omega⟩ | exact hS _ _ | exact hT _ _)) rfl rfl (Nat.le_of_ble_eq_true rfl) ⟨⟨Nat.le_of_ble_eq_true rfl, Nat.le_of_ble_eq_true rfl⟩, Nat.le_of_ble_eq_true rfl, Nat.le_of_ble_eq_true rfl⟩ ?_
    refine G_if_ne_b (pc := 17) 26 dX7_join_17 (by decide) (fun c17 => ?_) (fun c17 => ?_)
    · exfalso
      omega
    · refine G_aload_n (pc := 20) 0 0 dX7_join_20 rfl rfl ?_
      refine G_iconst (pc := 21) dX7_join_21 ?_
      refine G_callVd (pc := 22) gk_X7_194 dX7_join_22 mg_40 rfl (c_X7_isNot (Q := Q) (by first | assumption | omega | exact ⟨by omega, by omega⟩ | exact hS _ _ | exact hT _ _) (by first | assumption | omega | exact ⟨by omega, by omega⟩ | exact hS _ _ | exact hT _ _)) rfl rfl (Nat.le_of_ble_eq_true rfl) ⟨⟨Nat.le_of_ble_eq_true rfl, Nat.le_of_ble_eq_true rfl⟩, Nat.le_of_ble_eq_true rfl, Nat.le_of_ble_eq_true rfl⟩ ?_
      refine G_name (fun S3_22 hS3_22 => ?_)
      have hVS3_22 : zWM Q S3_22 := by rw [hS3_22]; exact hVS1_2.s40_0 (by first | assumption | exact ⟨by omega, by omega⟩)
      exact G_zret_m (pc := 25) hF dX7_join_25 ⟨Nat.le_of_ble_eq_true rfl, Nat.le_of_ble_eq_true rfl⟩ (by first | exact zb_ite | omega) rfl (by rw [hS3_22, hS1_2, zst_zst])
set_option maxHeartbeats 4000000 in
set_option maxRecDepth 100000 in
theorem c_X7_join_s {l : Launch} {Δ : zDl} {ad : zK → Nat} {P : zP} {S : zS} {X : zMem} {Q : zP} {g r b : Int} (hV : zWM Q S) (h61 : Q 61 0 0 = P 61 0 0) (hX0 : X (90, 0, 0, 0) = none) (hg : 0 ≤ g ∧ g < Q 3 0 0) (hr : 0 ≤ r ∧ r < 6) (hb : b = 0 ∨ b = 1) (h1 : S (68, 0, 0, 0) (g * 6 + r) = b) : zMn l Δ yX7_join cX7_join 10 (some .boolean) 9 0 0 [.ref (ad (40, 0, 0, 0)), .int (zI g), .int (zI r), .int (zI b)] ad (mm Δ ad P S X) (zD (some (.int (zI b))) ad (mm Δ ad P (zst S (40, 0, 0, 0) 0 0) X)) := by
  refine zMn_of (by decide) (Nat.le_of_ble_eq_true rfl) (fun Γ hl hΔ hF => ?_)
  subst hl hΔ
  show G Γ _ _ _ RX7 _ _ _ _ _ [(0, .ref (ad (40, 0, 0, 0))), (1, .int (zI g)), (2, .int (zI r)), (3, .int (zI b))] []
  have hq := hV.q
  have h23 := hV.g23
  refine G_aload_n (pc := 0) 0 0 dX7_join_0 rfl rfl ?_
  refine G_iconst (pc := 1) dX7_join_1 ?_
  refine G_putf (pc := 2) fl_X7_93 fp_X7_0 dX7_join_2 mg_40 (Nat.le_of_ble_eq_true rfl) rfl rfl (mp_40_0 _) ?_
  refine G_name (fun S1_2 hS1_2 => ?_)
  have hVS1_2 : zWM Q S1_2 := by rw [hS1_2]; exact hV.s40_0 (by first | assumption | exact ⟨by omega, by omega⟩)
  have h235 := hVS1_2.g23
  have h68 : S1_2 (68, 0, 0, 0) (g * 6 + r) = S (68, 0, 0, 0) (g * 6 + r) := by rw [hS1_2, zst_k _ _ _ _ (by simp)]
  refine G_aload_n (pc := 5) 0 0 dX7_join_5 rfl rfl ?_
  refine G_iload_n (pc := 6) 1 1 dX7_join_6 rfl rfl ?_
  refine G_callVd (pc := 7) gk_X7_110 dX7_join_7 mg_40 rfl (c_X7_isGroup (Q := Q) (by first | assumption | omega | exact ⟨by omega, by omega⟩ | exact hS _ _ | exact hT _ _) (by first | assumption | omega | exact ⟨by omega, by omega⟩ | exact hS _ _ | exact hT _ _)) rfl rfl (Nat.le_of_ble_eq_true rfl) ⟨⟨Nat.le_of_ble_eq_true rfl, Nat.le_of_ble_eq_true rfl⟩, Nat.le_of_ble_eq_true rfl, Nat.le_of_ble_eq_true rfl⟩ ?_
  refine G_if_eq_b (pc := 10) 20 dX7_join_10 (by decide) (fun c10 => ?_) (fun c10 => ?_)
  · exfalso
    omega
  · refine G_iload_n (pc := 13) 2 2 dX7_join_13 rfl rfl ?_
    refine G_callSd (pc := 14) gk_X7_191 dX7_join_14 (c_X7_isReader (by first | assumption | omega | exact ⟨by omega, by omega⟩ | exact hS _ _ | exact hT _ _)) rfl rfl (Nat.le_of_ble_eq_true rfl) ⟨⟨Nat.le_of_ble_eq_true rfl, Nat.le_of_ble_eq_true rfl⟩, Nat.le_of_ble_eq_true rfl, Nat.le_of_ble_eq_true rfl⟩ ?_
    refine G_if_ne_b (pc := 17) 26 dX7_join_17 (by decide) (fun c17 => ?_) (fun c17 => ?_)
    · refine G_aload_n (pc := 26) 0 0 dX7_join_26 rfl rfl ?_
      refine G_getf (pc := 27) fl_X7_78 dX7_join_27 mg_40 rfl ?_
      refine G_iload_n (pc := 30) 1 1 dX7_join_30 rfl rfl ?_
      refine G_bipush (pc := 31) dX7_join_31 (by decide) ?_
      refine G_imul (pc := 33) dX7_join_33 ?_
      refine G_iload_n (pc := 34) 2 2 dX7_join_34 rfl rfl ?_
      refine G_iadd (pc := 35) dX7_join_35 ?_
      refine G_zald (pc := 36) dX7_join_36 mg_68 ⟨by omega, by omega, by omega, by omega⟩ ?_
      have hb36 := hVS1_2.b68 ((g * 6) + r)
      refine G_istore (pc := 37) [(4, .int (zI (S1_2 (68, 0, 0, 0) ((g * 6) + r)))), (0, .ref (ad (40, 0, 0, 0))), (1, .int (zI g)), (2, .int (zI r)), (3, .int (zI b))] dX7_join_37 (by decide) rfl ?_
      refine G_iload (pc := 39) 0 dX7_join_39 rfl ?_
      refine G_iload_n (pc := 41) 3 4 dX7_join_41 rfl rfl ?_
      refine G_icmp_ne (pc := 42) 48 dX7_join_42 (by decide) (by first | exact hS _ _ | exact hT _ _ | exact ⟨by omega, by omega⟩ | assumption | exact zWM.r (by assumption) _ _ (by decide)) (by first | exact hS _ _ | exact hT _ _ | exact ⟨by omega, by omega⟩ | assumption | exact zWM.r (by assumption) _ _ (by decide)) (fun c42 => ?_) (fun c42 => ?_)
      · exfalso
        omega
      · refine G_iload (pc := 45) 0 dX7_join_45 rfl ?_
        exact G_zret_m (pc := 47) hF dX7_join_47 ⟨Nat.le_of_ble_eq_true rfl, Nat.le_of_ble_eq_true rfl⟩ (by first | exact zb_ite | omega) (by rw [h68]; exact h1) (by rw [hS1_2])
    · exfalso
      omega
set_option maxHeartbeats 4000000 in
set_option maxRecDepth 100000 in
theorem c_X7_join_o {l : Launch} {Δ : zDl} {ad : zK → Nat} {P : zP} {S : zS} {X : zMem} {Q : zP} {g r b : Int} (hV : zWM Q S) (h61 : Q 61 0 0 = P 61 0 0) (hX0 : X (90, 0, 0, 0) = none) (hg : 0 ≤ g ∧ g < Q 3 0 0) (hr : 0 ≤ r ∧ r < 6) (hb : b = 0 ∨ b = 1) (h1 : ¬ S (68, 0, 0, 0) (g * 6 + r) = b) : zMn l Δ yX7_join cX7_join 10 (some .boolean) 9 1 4 [.ref (ad (40, 0, 0, 0)), .int (zI g), .int (zI r), .int (zI b)] ad (mm Δ ad P S X) (zD (some (.int (zI (S (68, 0, 0, 0) (g * 6 + r))))) ad (mm Δ ad P (msa Q (lp (mj3 Q (msh Q (zst (zst S (40, 0, 0, 0) 0 0) (68, 0, 0, 0) (g * 6 + r) b) g) g) 0 (Q 1 (Q 4 g 0) 0) (zst (zst S (40, 0, 0, 0) 0 0) (68, 0, 0, 0) (g * 6 + r) b))) X)) := by
  refine zMn_of (by decide) (Nat.le_of_ble_eq_true rfl) (fun Γ hl hΔ hF => ?_)
  subst hl hΔ
  show G Γ _ _ _ RX7 _ _ _ _ _ [(0, .ref (ad (40, 0, 0, 0))), (1, .int (zI g)), (2, .int (zI r)), (3, .int (zI b))] []
  have hq := hV.q
  have hqg := hV.qg hg
  have hqt := hV.qt hqg
  have hgt := hV.gt hg
  have hgn := hV.gn hg
  have h23 := hV.g23
  refine G_aload_n (pc := 0) 0 0 dX7_join_0 rfl rfl ?_
  refine G_iconst (pc := 1) dX7_join_1 ?_
  refine G_putf (pc := 2) fl_X7_93 fp_X7_0 dX7_join_2 mg_40 (Nat.le_of_ble_eq_true rfl) rfl rfl (mp_40_0 _) ?_
  refine G_name (fun S1_2 hS1_2 => ?_)
  have hVS1_2 : zWM Q S1_2 := by rw [hS1_2]; exact hV.s40_0 (by first | assumption | exact ⟨by omega, by omega⟩)
  have h235 := hVS1_2.g23
  have h68 : S1_2 (68, 0, 0, 0) (g * 6 + r) = S (68, 0, 0, 0) (g * 6 + r) := by rw [hS1_2, zst_k _ _ _ _ (by simp)]
  refine G_aload_n (pc := 5) 0 0 dX7_join_5 rfl rfl ?_
  refine G_iload_n (pc := 6) 1 1 dX7_join_6 rfl rfl ?_
  refine G_callVd (pc := 7) gk_X7_110 dX7_join_7 mg_40 rfl (c_X7_isGroup (Q := Q) (by first | assumption | omega | exact ⟨by omega, by omega⟩ | exact hS _ _ | exact hT _ _) (by first | assumption | omega | exact ⟨by omega, by omega⟩ | exact hS _ _ | exact hT _ _)) rfl rfl (Nat.le_of_ble_eq_true rfl) ⟨⟨Nat.le_of_ble_eq_true rfl, Nat.le_of_ble_eq_true rfl⟩, Nat.le_of_ble_eq_true rfl, Nat.le_of_ble_eq_true rfl⟩ ?_
  refine G_if_eq_b (pc := 10) 20 dX7_join_10 (by decide) (fun c10 => ?_) (fun c10 => ?_)
  · exfalso
    omega
  · refine G_iload_n (pc := 13) 2 2 dX7_join_13 rfl rfl ?_
    refine G_callSd (pc := 14) gk_X7_191 dX7_join_14 (c_X7_isReader (by first | assumption | omega | exact ⟨by omega, by omega⟩ | exact hS _ _ | exact hT _ _)) rfl rfl (Nat.le_of_ble_eq_true rfl) ⟨⟨Nat.le_of_ble_eq_true rfl, Nat.le_of_ble_eq_true rfl⟩, Nat.le_of_ble_eq_true rfl, Nat.le_of_ble_eq_true rfl⟩ ?_
    refine G_if_ne_b (pc := 17) 26 dX7_join_17 (by decide) (fun c17 => ?_) (fun c17 => ?_)
    · refine G_aload_n (pc := 26) 0 0 dX7_join_26 rfl rfl ?_
      refine G_getf (pc := 27) fl_X7_78 dX7_join_27 mg_40 rfl ?_
      refine G_iload_n (pc := 30) 1 1 dX7_join_30 rfl rfl ?_
      refine G_bipush (pc := 31) dX7_join_31 (by decide) ?_
      refine G_imul (pc := 33) dX7_join_33 ?_
      refine G_iload_n (pc := 34) 2 2 dX7_join_34 rfl rfl ?_
      refine G_iadd (pc := 35) dX7_join_35 ?_
      refine G_zald (pc := 36) dX7_join_36 mg_68 ⟨by omega, by omega, by omega, by omega⟩ ?_
      have hb36 := hVS1_2.b68 ((g * 6) + r)
      refine G_istore_e (pc := 37) (fun zw => [(4, .int (zI zw)), (0, .ref (ad (40, 0, 0, 0))), (1, .int (zI g)), (2, .int (zI r)), (3, .int (zI b))]) dX7_join_37 (by decide) (fun _ => rfl) (fun v37 e37 => ?_)
      refine G_iload (pc := 39) 0 dX7_join_39 rfl ?_
      refine G_iload_n (pc := 41) 3 4 dX7_join_41 rfl rfl ?_
      refine G_icmp_ne (pc := 42) 48 dX7_join_42 (by decide) (by first | exact hS _ _ | exact hT _ _ | exact ⟨by omega, by omega⟩ | assumption | exact zWM.r (by assumption) _ _ (by decide)) (by first | exact hS _ _ | exact hT _ _ | exact ⟨by omega, by omega⟩ | assumption | exact zWM.r (by assumption) _ _ (by decide)) (fun c42 => ?_) (fun c42 => ?_)
      · refine G_aload_n (pc := 48) 0 1 dX7_join_48 rfl rfl ?_
        refine G_getf (pc := 49) fl_X7_78 dX7_join_49 mg_40 rfl ?_
        refine G_iload_n (pc := 52) 1 2 dX7_join_52 rfl rfl ?_
        refine G_bipush (pc := 53) dX7_join_53 (by decide) ?_
        refine G_imul (pc := 55) dX7_join_55 ?_
        refine G_iload_n (pc := 56) 2 3 dX7_join_56 rfl rfl ?_
        refine G_iadd (pc := 57) dX7_join_57 ?_
        refine G_iload_n (pc := 58) 3 4 dX7_join_58 rfl rfl ?_
        refine G_zast (pc := 59) dX7_join_59 mg_68 ⟨by omega, by omega, by omega, by omega⟩ (by first | exact zb_ite | omega) (mp_68 _ _) ?_
        refine G_name (fun S2_59 hS2_59 => ?_)
        have hVS2_59 : zWM Q S2_59 := by rw [hS2_59]; exact hVS1_2.s68 ⟨by omega, by omega⟩
        refine G_aload_n (pc := 60) 0 1 dX7_join_60 rfl rfl ?_
        refine G_iload_n (pc := 61) 1 2 dX7_join_61 rfl rfl ?_
        refine G_callV (pc := 62) gk_X7_197 dX7_join_62 mg_40 rfl (c_X7_shares (Q := Q) (by first | assumption | omega | exact ⟨by omega, by omega⟩ | exact hS _ _ | exact hT _ _) (by first | assumption | omega | exact ⟨by omega, by omega⟩ | exact hS _ _ | exact hT _ _) (by first | assumption | omega | exact ⟨by omega, by omega⟩ | exact hS _ _ | exact hT _ _)) rfl rfl (Nat.le_of_ble_eq_true rfl) ⟨⟨Nat.le_of_ble_eq_true rfl, Nat.le_of_ble_eq_true rfl⟩, Nat.le_of_ble_eq_true rfl, Nat.le_of_ble_eq_true rfl⟩ (fun v62 ad1 M62 hpo => ?_)
        obtain ⟨rfl, had1, rfl⟩ := hpo
        show G Γ _ _ _ _ _ _ (1) (4) 65 [(4, .int (zI v37)), (0, .ref (ad (40, 0, 0, 0))), (1, .int (zI g)), (2, .int (zI r)), (3, .int (zI b))] [.ref (ad1 (90, 0, 0, 0))]
        rw [← had1 (40, 0, 0, 0) (by decide)]
        refine G_astore (pc := 65) [(5, .ref (ad1 (90, 0, 0, 0))), (4, .int (zI v37)), (0, .ref (ad1 (40, 0, 0, 0))), (1, .int (zI g)), (2, .int (zI r)), (3, .int (zI b))] dX7_join_65 (by decide) rfl ?_
        refine G_iconst (pc := 67) dX7_join_67 ?_
        refine G_istore_e (pc := 68) (fun zw => [(6, .int (zI zw)), (5, .ref (ad1 (90, 0, 0, 0))), (4, .int (zI v37)), (0, .ref (ad1 (40, 0, 0, 0))), (1, .int (zI g)), (2, .int (zI r)), (3, .int (zI b))]) dX7_join_68 (by decide) (fun _ => rfl) (fun v68 e68 => ?_)
        have L70 : ∀ (n : Nat) (p : Int) (T : zS), ((0 ≤ p ∧ p ≤ Q 1 (Q 4 g 0) 0) ∧ lp (mj3 Q (msh Q S2_59 g) g) p (Q 1 (Q 4 g 0) 0) T = lp (mj3 Q (msh Q S2_59 g) g) 0 (Q 1 (Q 4 g 0) 0) S2_59 ∧ zWM Q T) → (Q 1 (Q 4 g 0) 0 - p).toNat < n → G Γ (zRm 9 1 4) cX7_join 10 RX7 ad1 (mm (z_d Γ) ad1 P T (zTm X ((z_d Γ).2.1 0) 4 (msh Q S2_59 g))) 1 4 70 [(0, .ref (ad1 (40, 0, 0, 0))), (1, .int (zI g)), (2, .int (zI r)), (3, .int (zI b)), (4, .int (zI v37)), (5, .ref (ad1 (90, 0, 0, 0))), (6, .int (zI p))] [] := by
          intro n
          induction n with
          | zero => intro p T _ hn; omega
          | succ n ih70 =>
            intro p T hi70 hn70
            obtain ⟨hp0, hz, hTV⟩ := hi70
            have hgn7 := hTV.gn hg
            refine G_iload (pc := 70) 6 dX7_join_70 rfl ?_
            refine G_aload_n (pc := 72) 0 0 dX7_join_72 rfl rfl ?_
            refine G_getf (pc := 73) fl_X7_16 dX7_join_73 mg_40 rfl ?_
            refine G_aload_n (pc := 76) 0 0 dX7_join_76 rfl rfl ?_
            refine G_getf (pc := 77) fl_X7_66 dX7_join_77 mg_40 rfl ?_
            refine G_iload_n (pc := 80) 1 1 dX7_join_80 rfl rfl ?_
            refine G_iald (pc := 81) dX7_join_81 mg_64 ⟨by omega, by omega, by omega, by omega⟩ ?_
            have hb81 := hTV.b64 (g)
            refine G_iald (pc := 82) dX7_join_82 mg_45 ⟨by omega, by omega, by omega, by omega⟩ ?_
            have hb82 := hTV.b45 (T (64, 0, 0, 0) g)
            refine G_icmp_ge (pc := 83) 209 dX7_join_83 (by decide) (by first | exact hS _ _ | exact hT _ _ | exact ⟨by omega, by omega⟩ | assumption | exact zWM.r (by assumption) _ _ (by decide)) (by first | exact hS _ _ | exact hT _ _ | exact ⟨by omega, by omega⟩ | assumption | exact zWM.r (by assumption) _ _ (by decide)) (fun c83 => ?_) (fun c83 => ?_)
            · have hz10 := hz
              rw [lp_end (a := p) (by omega)] at hz10
              refine G_aload_n (pc := 209) 0 0 dX7_join_209 rfl rfl ?_
              refine G_callVv (pc := 210) gk_X7_146 dX7_join_210 mg_40 rfl (c_X7_settle (Q := Q) (by first | assumption | omega | exact ⟨by omega, by omega⟩ | exact hS _ _ | exact hT _ _) (by first | assumption | omega | exact ⟨by omega, by omega⟩ | exact hS _ _ | exact hT _ _)) rfl rfl (Nat.le_of_ble_eq_true rfl) ⟨⟨Nat.le_of_ble_eq_true rfl, Nat.le_of_ble_eq_true rfl⟩, Nat.le_of_ble_eq_true rfl, Nat.le_of_ble_eq_true rfl⟩ ?_
              refine G_name (fun S3_210 hS3_210 => ?_)
              have hVS3_210 : zWM Q S3_210 := by rw [hS3_210]; exact msa_W hTV
              refine G_iload (pc := 213) 4 dX7_join_213 rfl ?_
              refine G_drop hX0 (by decide) had1 ?_
              exact G_zret_m (pc := 215) hF dX7_join_215 ⟨Nat.le_of_ble_eq_true rfl, Nat.le_of_ble_eq_true rfl⟩ (by first | exact zb_ite | omega) (by rw [e37, h68]) (by rw [hS3_210, hz10, hS2_59, hS1_2])
            · have hp : 0 ≤ p ∧ p < Q 1 (Q 4 g 0) 0 := by omega
              have hqm := hV.qm hqg hp
              have hFp := msh_le (Q := Q) (S := S2_59) (g := g) p
              refine G_iload_n (pc := 86) 1 1 dX7_join_86 rfl rfl ?_
              refine G_iconst (pc := 87) dX7_join_87 ?_
              refine G_imul (pc := 88) dX7_join_88 ?_
              refine G_iload (pc := 89) 6 dX7_join_89 rfl ?_
              refine G_iadd (pc := 91) dX7_join_91 ?_
              refine G_istore (pc := 92) [(7, .int (zI ((g * 4) + p))), (0, .ref (ad1 (40, 0, 0, 0))), (1, .int (zI g)), (2, .int (zI r)), (3, .int (zI b)), (4, .int (zI v37)), (5, .ref (ad1 (90, 0, 0, 0))), (6, .int (zI p))] dX7_join_92 (by decide) rfl ?_
              refine G_aload_n (pc := 94) 0 1 dX7_join_94 rfl rfl ?_
              refine G_getf (pc := 95) fl_X7_75 dX7_join_95 mg_40 rfl ?_
              refine G_iload (pc := 98) 0 dX7_join_98 rfl ?_
              refine G_iald (pc := 100) dX7_join_100 mg_67 ⟨by omega, by omega, by omega, by omega⟩ ?_
              have hb100 := hTV.b67 ((g * 4) + p)
              refine G_aload (pc := 101) 6 dX7_join_101 rfl ?_
              refine G_iload (pc := 103) 7 dX7_join_103 rfl ?_
              refine G_tial (pc := 105) dX7_join_105 ⟨by omega, by omega, by omega, by omega⟩ ?_
              refine G_icmp_ne (pc := 106) 112 dX7_join_106 (by decide) (by first | exact hS _ _ | exact hT _ _ | exact ⟨by omega, by omega⟩ | assumption | exact zWM.r (by assumption) _ _ (by decide)) (by first | exact hS _ _ | exact hT _ _ | exact ⟨by omega, by omega⟩ | assumption | exact zWM.r (by assumption) _ _ (by decide)) (fun c106 => ?_) (fun c106 => ?_)
              · refine G_aload_n (pc := 112) 0 1 dX7_join_112 rfl rfl ?_
                refine G_getf (pc := 113) fl_X7_75 dX7_join_113 mg_40 rfl ?_
                refine G_iload (pc := 116) 0 dX7_join_116 rfl ?_
                refine G_aload (pc := 118) 6 dX7_join_118 rfl ?_
                refine G_iload (pc := 120) 7 dX7_join_120 rfl ?_
                refine G_tial (pc := 122) dX7_join_122 ⟨by omega, by omega, by omega, by omega⟩ ?_
                refine G_iast (pc := 123) dX7_join_123 mg_67 ⟨by omega, by omega, by omega, by omega⟩ (mp_67 _ _) ?_
                refine G_name (fun S4_123 hS4_123 => ?_)
                have hVS4_123 : zWM Q S4_123 := by rw [hS4_123]; exact hTV.s67 ⟨by omega, by omega⟩
                refine G_aload_n (pc := 124) 0 1 dX7_join_124 rfl rfl ?_
                refine G_iload_n (pc := 125) 1 2 dX7_join_125 rfl rfl ?_
                refine G_iload (pc := 126) 7 dX7_join_126 rfl ?_
                refine G_callVd (pc := 128) gk_X7_201 dX7_join_128 mg_40 rfl (c_X7_whereOf (Q := Q) (by first | assumption | omega | exact ⟨by omega, by omega⟩ | exact hS _ _ | exact hT _ _) (by first | assumption | omega | exact ⟨by omega, by omega⟩ | exact hS _ _ | exact hT _ _)) rfl rfl (Nat.le_of_ble_eq_true rfl) ⟨⟨Nat.le_of_ble_eq_true rfl, Nat.le_of_ble_eq_true rfl⟩, Nat.le_of_ble_eq_true rfl, Nat.le_of_ble_eq_true rfl⟩ ?_
                refine G_istore (pc := 131) [(8, .int (zI (Q 4 g 0 * 4 + p))), (7, .int (zI ((g * 4) + p))), (0, .ref (ad1 (40, 0, 0, 0))), (1, .int (zI g)), (2, .int (zI r)), (3, .int (zI b)), (4, .int (zI v37)), (5, .ref (ad1 (90, 0, 0, 0))), (6, .int (zI p))] dX7_join_131 (by decide) rfl ?_
                refine G_iconst (pc := 133) dX7_join_133 ?_
                refine G_istore_e (pc := 134) (fun zw => [(9, .int (zI zw)), (8, .int (zI (Q 4 g 0 * 4 + p))), (7, .int (zI ((g * 4) + p))), (0, .ref (ad1 (40, 0, 0, 0))), (1, .int (zI g)), (2, .int (zI r)), (3, .int (zI b)), (4, .int (zI v37)), (5, .ref (ad1 (90, 0, 0, 0))), (6, .int (zI p))]) dX7_join_134 (by decide) (fun _ => rfl) (fun v134 e134 => ?_)
                have L136 : ∀ (n : Nat) (o : Int) (T2 : zS), ((0 ≤ o ∧ o ≤ Q 2 (Q 4 g 0) p) ∧ lp (mj1 Q g p) o (Q 2 (Q 4 g 0) p) T2 = lp (mj1 Q g p) 0 (Q 2 (Q 4 g 0) p) S4_123 ∧ zWM Q T2) → (Q 2 (Q 4 g 0) p - o).toNat < n → G Γ (zRm 9 1 4) cX7_join 10 RX7 ad1 (mm (z_d Γ) ad1 P T2 (zTm X ((z_d Γ).2.1 0) 4 (msh Q S2_59 g))) 1 4 136 [(0, .ref (ad1 (40, 0, 0, 0))), (1, .int (zI g)), (2, .int (zI r)), (3, .int (zI b)), (4, .int (zI v37)), (5, .ref (ad1 (90, 0, 0, 0))), (6, .int (zI p)), (7, .int (zI ((g * 4) + p))), (8, .int (zI (Q 4 g 0 * 4 + p))), (9, .int (zI o))] [] := by
                  intro n
                  induction n with
                  | zero => intro o T2 _ hn; omega
                  | succ n ih136 =>
                    intro o T2 hi136 hn136
                    obtain ⟨ho0, hz2, hT2V⟩ := hi136
                    have hen9 := hT2V.en hqg hp
                    refine G_iload (pc := 136) 9 dX7_join_136 rfl ?_
                    refine G_aload_n (pc := 138) 0 0 dX7_join_138 rfl rfl ?_
                    refine G_getf (pc := 139) fl_X7_26 dX7_join_139 mg_40 rfl ?_
                    refine G_iload (pc := 142) 8 dX7_join_142 rfl ?_
                    refine G_iald (pc := 144) dX7_join_144 mg_48 ⟨by omega, by omega, by omega, by omega⟩ ?_
                    have hb144 := hT2V.b48 (Q 4 g 0 * 4 + p)
                    refine G_icmp_ge (pc := 145) 189 dX7_join_145 (by decide) (by first | exact hS _ _ | exact hT _ _ | exact ⟨by omega, by omega⟩ | assumption | exact zWM.r (by assumption) _ _ (by decide)) (by first | exact hS _ _ | exact hT _ _ | exact ⟨by omega, by omega⟩ | assumption | exact zWM.r (by assumption) _ _ (by decide)) (fun c145 => ?_) (fun c145 => ?_)
                    · have hz8 := hz2
                      rw [lp_end (a := o) (by omega)] at hz8
                      refine G_aload_n (pc := 189) 0 0 dX7_join_189 rfl rfl ?_
                      refine G_getf (pc := 190) fl_X7_72 dX7_join_190 mg_40 rfl ?_
                      refine G_iload (pc := 193) 7 dX7_join_193 rfl ?_
                      refine G_aload_n (pc := 195) 0 0 dX7_join_195 rfl rfl ?_
                      refine G_getf (pc := 196) fl_X7_69 dX7_join_196 mg_40 rfl ?_
                      refine G_iload (pc := 199) 7 dX7_join_199 rfl ?_
                      refine G_iald (pc := 201) dX7_join_201 mg_65 ⟨by omega, by omega, by omega, by omega⟩ ?_
                      have hb201 := hT2V.b65 ((g * 4) + p)
                      refine G_iast (pc := 202) dX7_join_202 mg_66 ⟨by omega, by omega, by omega, by omega⟩ (mp_66 _ _) ?_
                      refine G_name (fun S5_202 hS5_202 => ?_)
                      have hVS5_202 : zWM Q S5_202 := by rw [hS5_202]; exact hT2V.s66 ⟨by omega, by omega⟩
                      first | (have hz9 : mj3 Q (msh Q S2_59 g) g p T = S5_202 := by rw [hS5_202]; unfold mj3; rw [if_neg c106]; unfold mj2; rw [← hS4_123, ← hz8]) | (have hz9 : mj3 Q (msh Q S2_59 g) g p T = S5_202 := if_pos c106)
                      refine G_iinc_e (pc := 203) 6 (fun zw => [(6, .int (zI zw)), (0, .ref (ad1 (40, 0, 0, 0))), (1, .int (zI g)), (2, .int (zI r)), (3, .int (zI b)), (4, .int (zI v37)), (5, .ref (ad1 (90, 0, 0, 0))), (7, .int (zI ((g * 4) + p))), (8, .int (zI (Q 4 g 0 * 4 + p))), (9, .int (zI o))]) dX7_join_203 rfl (by decide) (fun _ => rfl) (fun v203 e203 => ?_)
                      refine G_goto (pc := 206) 70 dX7_join_206 (by decide) ?_
                      refine G_perm (lv' := [(0, .ref (ad1 (40, 0, 0, 0))), (1, .int (zI g)), (2, .int (zI r)), (3, .int (zI b)), (4, .int (zI v37)), (5, .ref (ad1 (90, 0, 0, 0))), (6, .int (zI v203))]) [1, 2, 3, 4, 5, 6, 0] rfl ?_
                      exact ih70 v203 S5_202 ⟨by omega, by rw [e203, ← hz, lp_step (a := p) (n := Q 1 (Q 4 g 0) 0) (by omega), hz9], by assumption⟩ (by omega)
                    · refine G_aload_n (pc := 148) 0 0 dX7_join_148 rfl rfl ?_
                      refine G_getf (pc := 149) fl_X7_81 dX7_join_149 mg_40 rfl ?_
                      refine G_iload_n (pc := 152) 1 1 dX7_join_152 rfl rfl ?_
                      refine G_bipush (pc := 153) dX7_join_153 (by decide) ?_
                      refine G_imul (pc := 155) dX7_join_155 ?_
                      refine G_aload_n (pc := 156) 0 0 dX7_join_156 rfl rfl ?_
                      refine G_iload (pc := 157) 8 dX7_join_157 rfl ?_
                      refine G_iload (pc := 159) 9 dX7_join_159 rfl ?_
                      refine G_callVd (pc := 161) gk_X7_113 dX7_join_161 mg_40 rfl (c_X7_messageAt (Q := Q) (by first | assumption | omega | exact ⟨by omega, by omega⟩ | exact hS _ _ | exact hT _ _) (by first | assumption | omega | exact ⟨by omega, by omega⟩ | exact hS _ _ | exact hT _ _) (by first | assumption | omega | exact ⟨by omega, by omega⟩ | exact hS _ _ | exact hT _ _)) rfl rfl (Nat.le_of_ble_eq_true rfl) ⟨⟨Nat.le_of_ble_eq_true rfl, Nat.le_of_ble_eq_true rfl⟩, Nat.le_of_ble_eq_true rfl, Nat.le_of_ble_eq_true rfl⟩ ?_
                      have hb161 := hT2V.b59 ((Q 4 g 0 * 4 + p) * 80 + o)
                      refine G_iadd (pc := 164) dX7_join_164 ?_
                      refine G_iald (pc := 165) dX7_join_165 mg_69 ⟨by omega, by omega, by omega, by omega⟩ ?_
                      have hb165 := hT2V.b69 ((g * 80) + (T2 (59, 0, 0, 0) ((Q 4 g 0 * 4 + p) * 80 + o)))
                      refine G_iconst (pc := 166) dX7_join_166 ?_
                      refine G_icmp_ne (pc := 167) 183 dX7_join_167 (by decide) (by first | exact hS _ _ | exact hT _ _ | exact ⟨by omega, by omega⟩ | assumption | exact zWM.r (by assumption) _ _ (by decide)) (by first | exact hS _ _ | exact hT _ _ | exact ⟨by omega, by omega⟩ | assumption | exact zWM.r (by assumption) _ _ (by decide)) (fun c167 => ?_) (fun c167 => ?_)
                      · first | (have hz7 : mj1 Q g p o T2 = T2 := by rw [hT2]; exact if_pos c167) | (have hz7 : mj1 Q g p o T2 = T2 := if_neg c167)
                        refine G_iinc_e (pc := 183) 9 (fun zw => [(9, .int (zI zw)), (0, .ref (ad1 (40, 0, 0, 0))), (1, .int (zI g)), (2, .int (zI r)), (3, .int (zI b)), (4, .int (zI v37)), (5, .ref (ad1 (90, 0, 0, 0))), (6, .int (zI p)), (7, .int (zI ((g * 4) + p))), (8, .int (zI (Q 4 g 0 * 4 + p)))]) dX7_join_183 rfl (by decide) (fun _ => rfl) (fun v183 e183 => ?_)
                        refine G_goto (pc := 186) 136 dX7_join_186 (by decide) ?_
                        refine G_perm (lv' := [(0, .ref (ad1 (40, 0, 0, 0))), (1, .int (zI g)), (2, .int (zI r)), (3, .int (zI b)), (4, .int (zI v37)), (5, .ref (ad1 (90, 0, 0, 0))), (6, .int (zI p)), (7, .int (zI ((g * 4) + p))), (8, .int (zI (Q 4 g 0 * 4 + p))), (9, .int (zI v183))]) [1, 2, 3, 4, 5, 6, 7, 8, 9, 0] rfl ?_
                        exact ih136 v183 T2 ⟨by omega, by rw [e183, ← hz2, lp_step (a := o) (n := Q 2 (Q 4 g 0) p) (by omega), hz7], by assumption⟩ (by omega)
                      · refine G_aload_n (pc := 170) 0 0 dX7_join_170 rfl rfl ?_
                        refine G_iload_n (pc := 171) 1 1 dX7_join_171 rfl rfl ?_
                        refine G_aload_n (pc := 172) 0 0 dX7_join_172 rfl rfl ?_
                        refine G_iload (pc := 173) 8 dX7_join_173 rfl ?_
                        refine G_iload (pc := 175) 9 dX7_join_175 rfl ?_
                        refine G_callVd (pc := 177) gk_X7_113 dX7_join_177 mg_40 rfl (c_X7_messageAt (Q := Q) (by first | assumption | omega | exact ⟨by omega, by omega⟩ | exact hS _ _ | exact hT _ _) (by first | assumption | omega | exact ⟨by omega, by omega⟩ | exact hS _ _ | exact hT _ _) (by first | assumption | omega | exact ⟨by omega, by omega⟩ | exact hS _ _ | exact hT _ _)) rfl rfl (Nat.le_of_ble_eq_true rfl) ⟨⟨Nat.le_of_ble_eq_true rfl, Nat.le_of_ble_eq_true rfl⟩, Nat.le_of_ble_eq_true rfl, Nat.le_of_ble_eq_true rfl⟩ ?_
                        have hb177 := hT2V.b59 ((Q 4 g 0 * 4 + p) * 80 + o)
                        refine G_callVv (pc := 180) gk_X7_130 dX7_join_180 mg_40 rfl (c_X7_forget (Q := Q) (by first | assumption | omega | exact ⟨by omega, by omega⟩ | exact hS _ _ | exact hT _ _) (by first | assumption | omega | exact ⟨by omega, by omega⟩ | exact hS _ _ | exact hT _ _) (by first | assumption | omega | exact ⟨by omega, by omega⟩ | exact hS _ _ | exact hT _ _)) rfl rfl (Nat.le_of_ble_eq_true rfl) ⟨⟨Nat.le_of_ble_eq_true rfl, Nat.le_of_ble_eq_true rfl⟩, Nat.le_of_ble_eq_true rfl, Nat.le_of_ble_eq_true rfl⟩ ?_
                        refine G_name (fun S6_180 hS6_180 => ?_)
                        have hVS6_180 : zWM Q S6_180 := by rw [hS6_180]; exact mfg_W hT2V
                        first | (have hz7 : mj1 Q g p o T2 = S6_180 := by rw [hS6_180]; exact if_pos c167) | (have hz7 : mj1 Q g p o T2 = S6_180 := if_neg c167)
                        refine G_iinc_e (pc := 183) 9 (fun zw => [(9, .int (zI zw)), (0, .ref (ad1 (40, 0, 0, 0))), (1, .int (zI g)), (2, .int (zI r)), (3, .int (zI b)), (4, .int (zI v37)), (5, .ref (ad1 (90, 0, 0, 0))), (6, .int (zI p)), (7, .int (zI ((g * 4) + p))), (8, .int (zI (Q 4 g 0 * 4 + p)))]) dX7_join_183 rfl (by decide) (fun _ => rfl) (fun v183 e183 => ?_)
                        refine G_goto (pc := 186) 136 dX7_join_186 (by decide) ?_
                        refine G_perm (lv' := [(0, .ref (ad1 (40, 0, 0, 0))), (1, .int (zI g)), (2, .int (zI r)), (3, .int (zI b)), (4, .int (zI v37)), (5, .ref (ad1 (90, 0, 0, 0))), (6, .int (zI p)), (7, .int (zI ((g * 4) + p))), (8, .int (zI (Q 4 g 0 * 4 + p))), (9, .int (zI v183))]) [1, 2, 3, 4, 5, 6, 7, 8, 9, 0] rfl ?_
                        exact ih136 v183 S6_180 ⟨by omega, by rw [e183, ← hz2, lp_step (a := o) (n := Q 2 (Q 4 g 0) p) (by omega), hz7], by assumption⟩ (by omega)
                refine G_perm (lv' := [(0, .ref (ad1 (40, 0, 0, 0))), (1, .int (zI g)), (2, .int (zI r)), (3, .int (zI b)), (4, .int (zI v37)), (5, .ref (ad1 (90, 0, 0, 0))), (6, .int (zI p)), (7, .int (zI ((g * 4) + p))), (8, .int (zI (Q 4 g 0 * 4 + p))), (9, .int (zI v134))]) [3, 4, 5, 6, 7, 8, 9, 2, 1, 0] rfl ?_
                exact L136 _ v134 S4_123 ⟨by omega, by rw [e134], by assumption⟩ (Nat.lt_succ_self _)
              · refine G_goto (pc := 109) 203 dX7_join_109 (by decide) ?_
                first | (have hz9 : mj3 Q (msh Q S2_59 g) g p T = T := by rw [hT]; unfold mj3; rw [if_neg c106]; unfold mj2; rw [← hS4_123, ← hz8]) | (have hz9 : mj3 Q (msh Q S2_59 g) g p T = T := if_pos c106)
                refine G_iinc_e (pc := 203) 7 (fun zw => [(6, .int (zI zw)), (7, .int (zI ((g * 4) + p))), (0, .ref (ad1 (40, 0, 0, 0))), (1, .int (zI g)), (2, .int (zI r)), (3, .int (zI b)), (4, .int (zI v37)), (5, .ref (ad1 (90, 0, 0, 0)))]) dX7_join_203 rfl (by decide) (fun _ => rfl) (fun v203 e203 => ?_)
                refine G_goto (pc := 206) 70 dX7_join_206 (by decide) ?_
                refine G_perm (lv' := [(0, .ref (ad1 (40, 0, 0, 0))), (1, .int (zI g)), (2, .int (zI r)), (3, .int (zI b)), (4, .int (zI v37)), (5, .ref (ad1 (90, 0, 0, 0))), (6, .int (zI v203))]) [2, 3, 4, 5, 6, 7, 0] rfl ?_
                exact ih70 v203 T ⟨by omega, by rw [e203, ← hz, lp_step (a := p) (n := Q 1 (Q 4 g 0) 0) (by omega), hz9], by assumption⟩ (by omega)
        refine G_perm (lv' := [(0, .ref (ad1 (40, 0, 0, 0))), (1, .int (zI g)), (2, .int (zI r)), (3, .int (zI b)), (4, .int (zI v37)), (5, .ref (ad1 (90, 0, 0, 0))), (6, .int (zI v68))]) [3, 4, 5, 6, 2, 1, 0] rfl ?_
        exact L70 _ v68 S2_59 ⟨by omega, by rw [e68], hVS2_59⟩ (Nat.lt_succ_self _)
      · exfalso
        omega
    · exfalso
      omega
set_option maxHeartbeats 4000000 in
set_option maxRecDepth 100000 in
theorem c_X7_wouldRead_x {l : Launch} {Δ : zDl} {ad : zK → Nat} {P : zP} {S : zS} {X : zMem} {Q : zP} {g r p : Int} (hV : zWM Q S) (h61 : Q 61 0 0 = P 61 0 0) (hX0 : X (90, 0, 0, 0) = none) (hrg : zR g) (hrr : zR r) (hrp : zR p) (hn : ¬ (((0 ≤ g ∧ g < Q 3 0 0) ∧ (0 ≤ p ∧ p < Q 1 (Q 4 g 0) 0)) ∧ (0 ≤ r ∧ r < 6))) : zMn l Δ yX7_wouldRead cX7_wouldRead 6 (some .int) 9 0 0 [.ref (ad (40, 0, 0, 0)), .int (zI g), .int (zI r), .int (zI p)] ad (mm Δ ad P S X) (zD (some (.int (zI 0))) ad (mm Δ ad P (zst S (40, 0, 0, 0) 0 1) X)) := by
  refine zMn_of (by decide) (Nat.le_of_ble_eq_true rfl) (fun Γ hl hΔ hF => ?_)
  subst hl hΔ
  show G Γ _ _ _ RX7 _ _ _ _ _ [(0, .ref (ad (40, 0, 0, 0))), (1, .int (zI g)), (2, .int (zI r)), (3, .int (zI p))] []
  have hq := hV.q
  refine G_aload_n (pc := 0) 0 0 dX7_wouldRead_0 rfl rfl ?_
  refine G_iconst (pc := 1) dX7_wouldRead_1 ?_
  refine G_putf (pc := 2) fl_X7_93 fp_X7_0 dX7_wouldRead_2 mg_40 (Nat.le_of_ble_eq_true rfl) rfl rfl (mp_40_0 _) ?_
  refine G_name (fun S1_2 hS1_2 => ?_)
  have hVS1_2 : zWM Q S1_2 := by rw [hS1_2]; exact hV.s40_0 (by first | assumption | exact ⟨by omega, by omega⟩)
  refine G_aload_n (pc := 5) 0 0 dX7_wouldRead_5 rfl rfl ?_
  refine G_iload_n (pc := 6) 1 1 dX7_wouldRead_6 rfl rfl ?_
  refine G_iload_n (pc := 7) 3 3 dX7_wouldRead_7 rfl rfl ?_
  refine G_callVd (pc := 8) gk_X7_220 dX7_wouldRead_8 mg_40 rfl (c_X7_isShare (Q := Q) (by first | assumption | omega | exact ⟨by omega, by omega⟩ | exact hS _ _ | exact hT _ _) (by first | assumption | omega | exact ⟨by omega, by omega⟩ | exact hS _ _ | exact hT _ _) (by first | assumption | omega | exact ⟨by omega, by omega⟩ | exact hS _ _ | exact hT _ _)) rfl rfl (Nat.le_of_ble_eq_true rfl) ⟨⟨Nat.le_of_ble_eq_true rfl, Nat.le_of_ble_eq_true rfl⟩, Nat.le_of_ble_eq_true rfl, Nat.le_of_ble_eq_true rfl⟩ ?_
  refine G_if_eq_b (pc := 11) 21 dX7_wouldRead_11 (by decide) (fun c11 => ?_) (fun c11 => ?_)
  · refine G_aload_n (pc := 21) 0 0 dX7_wouldRead_21 rfl rfl ?_
    refine G_iconst (pc := 22) dX7_wouldRead_22 ?_
    refine G_callVd (pc := 23) gk_X7_134 dX7_wouldRead_23 mg_40 rfl (c_X7_no (Q := Q) (by first | assumption | omega | exact ⟨by omega, by omega⟩ | exact hS _ _ | exact hT _ _) (by first | assumption | omega | exact ⟨by omega, by omega⟩ | exact hS _ _ | exact hT _ _)) rfl rfl (Nat.le_of_ble_eq_true rfl) ⟨⟨Nat.le_of_ble_eq_true rfl, Nat.le_of_ble_eq_true rfl⟩, Nat.le_of_ble_eq_true rfl, Nat.le_of_ble_eq_true rfl⟩ ?_
    refine G_name (fun S2_23 hS2_23 => ?_)
    have hVS2_23 : zWM Q S2_23 := by rw [hS2_23]; exact hVS1_2.s40_0 (by first | assumption | exact ⟨by omega, by omega⟩)
    exact G_iret_m (pc := 26) hF dX7_wouldRead_26 ⟨Nat.le_of_ble_eq_true rfl, Nat.le_of_ble_eq_true rfl⟩ (by first | rfl | omega | simp_all) (by rw [hS2_23, hS1_2, zst_zst])
  · have hg := c11.1
    refine G_iload_n (pc := 14) 2 2 dX7_wouldRead_14 rfl rfl ?_
    refine G_callSd (pc := 15) gk_X7_191 dX7_wouldRead_15 (c_X7_isReader (by first | assumption | omega | exact ⟨by omega, by omega⟩ | exact hS _ _ | exact hT _ _)) rfl rfl (Nat.le_of_ble_eq_true rfl) ⟨⟨Nat.le_of_ble_eq_true rfl, Nat.le_of_ble_eq_true rfl⟩, Nat.le_of_ble_eq_true rfl, Nat.le_of_ble_eq_true rfl⟩ ?_
    refine G_if_ne_b (pc := 18) 27 dX7_wouldRead_18 (by decide) (fun c18 => ?_) (fun c18 => ?_)
    · exfalso
      exact hn ⟨c11, by omega⟩
    · refine G_aload_n (pc := 21) 0 0 dX7_wouldRead_21 rfl rfl ?_
      refine G_iconst (pc := 22) dX7_wouldRead_22 ?_
      refine G_callVd (pc := 23) gk_X7_134 dX7_wouldRead_23 mg_40 rfl (c_X7_no (Q := Q) (by first | assumption | omega | exact ⟨by omega, by omega⟩ | exact hS _ _ | exact hT _ _) (by first | assumption | omega | exact ⟨by omega, by omega⟩ | exact hS _ _ | exact hT _ _)) rfl rfl (Nat.le_of_ble_eq_true rfl) ⟨⟨Nat.le_of_ble_eq_true rfl, Nat.le_of_ble_eq_true rfl⟩, Nat.le_of_ble_eq_true rfl, Nat.le_of_ble_eq_true rfl⟩ ?_
      refine G_name (fun S3_23 hS3_23 => ?_)
      have hVS3_23 : zWM Q S3_23 := by rw [hS3_23]; exact hVS1_2.s40_0 (by first | assumption | exact ⟨by omega, by omega⟩)
      exact G_iret_m (pc := 26) hF dX7_wouldRead_26 ⟨Nat.le_of_ble_eq_true rfl, Nat.le_of_ble_eq_true rfl⟩ (by first | rfl | omega | simp_all) (by rw [hS3_23, hS1_2, zst_zst])
set_option maxHeartbeats 4000000 in
set_option maxRecDepth 100000 in
theorem c_X7_wouldRead_0 {l : Launch} {Δ : zDl} {ad : zK → Nat} {P : zP} {S : zS} {X : zMem} {Q : zP} {g r p : Int} (hV : zWM Q S) (h61 : Q 61 0 0 = P 61 0 0) (hX0 : X (90, 0, 0, 0) = none) (hg : 0 ≤ g ∧ g < Q 3 0 0) (hp : 0 ≤ p ∧ p < Q 1 (Q 4 g 0) 0) (hr : 0 ≤ r ∧ r < 6) (h1 : S (68, 0, 0, 0) (g * 6 + r) = 0) : zMn l Δ yX7_wouldRead cX7_wouldRead 6 (some .int) 9 1 4 [.ref (ad (40, 0, 0, 0)), .int (zI g), .int (zI r), .int (zI p)] ad (mm Δ ad P S X) (zD (some (.int (zI (msh Q (zst (zst S (40, 0, 0, 0) 0 0) (68, 0, 0, 0) (g * 6 + r) 1) g p)))) ad (mm Δ ad P (zst S (40, 0, 0, 0) 0 0) X)) := by
  refine zMn_of (by decide) (Nat.le_of_ble_eq_true rfl) (fun Γ hl hΔ hF => ?_)
  subst hl hΔ
  show G Γ _ _ _ RX7 _ _ _ _ _ [(0, .ref (ad (40, 0, 0, 0))), (1, .int (zI g)), (2, .int (zI r)), (3, .int (zI p))] []
  have hq := hV.q
  have hqg := hV.qg hg
  have hqt := hV.qt hqg
  have hgt := hV.gt hg
  have hgn := hV.gn hg
  have hqm := hV.qm hqg hp
  have hen := hV.en hqg hp
  refine G_aload_n (pc := 0) 0 0 dX7_wouldRead_0 rfl rfl ?_
  refine G_iconst (pc := 1) dX7_wouldRead_1 ?_
  refine G_putf (pc := 2) fl_X7_93 fp_X7_0 dX7_wouldRead_2 mg_40 (Nat.le_of_ble_eq_true rfl) rfl rfl (mp_40_0 _) ?_
  refine G_name (fun S1_2 hS1_2 => ?_)
  have hVS1_2 : zWM Q S1_2 := by rw [hS1_2]; exact hV.s40_0 (by first | assumption | exact ⟨by omega, by omega⟩)
  have h68 : S1_2 (68, 0, 0, 0) (g * 6 + r) = S (68, 0, 0, 0) (g * 6 + r) := by rw [hS1_2, zst_k _ _ _ _ (by simp)]
  refine G_aload_n (pc := 5) 0 0 dX7_wouldRead_5 rfl rfl ?_
  refine G_iload_n (pc := 6) 1 1 dX7_wouldRead_6 rfl rfl ?_
  refine G_iload_n (pc := 7) 3 3 dX7_wouldRead_7 rfl rfl ?_
  refine G_callVd (pc := 8) gk_X7_220 dX7_wouldRead_8 mg_40 rfl (c_X7_isShare (Q := Q) (by first | assumption | omega | exact ⟨by omega, by omega⟩ | exact hS _ _ | exact hT _ _) (by first | assumption | omega | exact ⟨by omega, by omega⟩ | exact hS _ _ | exact hT _ _) (by first | assumption | omega | exact ⟨by omega, by omega⟩ | exact hS _ _ | exact hT _ _)) rfl rfl (Nat.le_of_ble_eq_true rfl) ⟨⟨Nat.le_of_ble_eq_true rfl, Nat.le_of_ble_eq_true rfl⟩, Nat.le_of_ble_eq_true rfl, Nat.le_of_ble_eq_true rfl⟩ ?_
  refine G_if_eq_b (pc := 11) 21 dX7_wouldRead_11 (by decide) (fun c11 => ?_) (fun c11 => ?_)
  · exfalso
    first | exact c11 ⟨hg, hp⟩ | omega
  · refine G_iload_n (pc := 14) 2 2 dX7_wouldRead_14 rfl rfl ?_
    refine G_callSd (pc := 15) gk_X7_191 dX7_wouldRead_15 (c_X7_isReader (by first | assumption | omega | exact ⟨by omega, by omega⟩ | exact hS _ _ | exact hT _ _)) rfl rfl (Nat.le_of_ble_eq_true rfl) ⟨⟨Nat.le_of_ble_eq_true rfl, Nat.le_of_ble_eq_true rfl⟩, Nat.le_of_ble_eq_true rfl, Nat.le_of_ble_eq_true rfl⟩ ?_
    refine G_if_ne_b (pc := 18) 27 dX7_wouldRead_18 (by decide) (fun c18 => ?_) (fun c18 => ?_)
    · refine G_iload_n (pc := 27) 1 1 dX7_wouldRead_27 rfl rfl ?_
      refine G_bipush (pc := 28) dX7_wouldRead_28 (by decide) ?_
      refine G_imul (pc := 30) dX7_wouldRead_30 ?_
      refine G_iload_n (pc := 31) 2 2 dX7_wouldRead_31 rfl rfl ?_
      refine G_iadd (pc := 32) dX7_wouldRead_32 ?_
      refine G_istore (pc := 33) [(4, .int (zI ((g * 6) + r))), (0, .ref (ad (40, 0, 0, 0))), (1, .int (zI g)), (2, .int (zI r)), (3, .int (zI p))] dX7_wouldRead_33 (by decide) rfl ?_
      refine G_aload_n (pc := 35) 0 1 dX7_wouldRead_35 rfl rfl ?_
      refine G_getf (pc := 36) fl_X7_78 dX7_wouldRead_36 mg_40 rfl ?_
      refine G_iload (pc := 39) 0 dX7_wouldRead_39 rfl ?_
      refine G_aload_n (pc := 41) 0 1 dX7_wouldRead_41 rfl rfl ?_
      refine G_getf (pc := 42) fl_X7_78 dX7_wouldRead_42 mg_40 rfl ?_
      refine G_iload (pc := 45) 0 dX7_wouldRead_45 rfl ?_
      refine G_zald (pc := 47) dX7_wouldRead_47 mg_68 ⟨by omega, by omega, by omega, by omega⟩ ?_
      have hb47 := hVS1_2.b68 ((g * 6) + r)
      refine G_if_ne (pc := 48) 55 dX7_wouldRead_48 (by decide) (by first | exact hS _ _ | exact hT _ _ | exact ⟨by omega, by omega⟩ | assumption | exact zWM.r (by assumption) _ _ (by decide)) (fun c48 => ?_) (fun c48 => ?_)
      · exfalso
        omega
      · refine G_iconst (pc := 51) dX7_wouldRead_51 ?_
        refine G_goto (pc := 52) 56 dX7_wouldRead_52 (by decide) ?_
        refine G_zast (pc := 56) dX7_wouldRead_56 mg_68 ⟨by omega, by omega, by omega, by omega⟩ (by first | exact zb_ite | omega) (mp_68 _ _) ?_
        refine G_name (fun S2_56 hS2_56 => ?_)
        have hVS2_56 : zWM Q S2_56 := by rw [hS2_56]; exact hVS1_2.s68 ⟨by omega, by omega⟩
        have h682 : S2_56 (68, 0, 0, 0) (g * 6 + r) = 1 := by rw [hS2_56, zst_s]
        refine G_aload_n (pc := 57) 0 1 dX7_wouldRead_57 rfl rfl ?_
        refine G_iload_n (pc := 58) 1 2 dX7_wouldRead_58 rfl rfl ?_
        refine G_callV (pc := 59) gk_X7_197 dX7_wouldRead_59 mg_40 rfl (c_X7_shares (Q := Q) (by first | assumption | omega | exact ⟨by omega, by omega⟩ | exact hS _ _ | exact hT _ _) (by first | assumption | omega | exact ⟨by omega, by omega⟩ | exact hS _ _ | exact hT _ _) (by first | assumption | omega | exact ⟨by omega, by omega⟩ | exact hS _ _ | exact hT _ _)) rfl rfl (Nat.le_of_ble_eq_true rfl) ⟨⟨Nat.le_of_ble_eq_true rfl, Nat.le_of_ble_eq_true rfl⟩, Nat.le_of_ble_eq_true rfl, Nat.le_of_ble_eq_true rfl⟩ (fun v59 ad1 M59 hpo => ?_)
        obtain ⟨rfl, had1, rfl⟩ := hpo
        show G Γ _ _ _ _ _ _ (1) (4) 62 [(4, .int (zI ((g * 6) + r))), (0, .ref (ad (40, 0, 0, 0))), (1, .int (zI g)), (2, .int (zI r)), (3, .int (zI p))] [.ref (ad1 (90, 0, 0, 0))]
        rw [← had1 (40, 0, 0, 0) (by decide)]
        refine G_iload_n (pc := 62) 3 4 dX7_wouldRead_62 rfl rfl ?_
        refine G_tial (pc := 63) dX7_wouldRead_63 ⟨by omega, by omega, by omega, by omega⟩ ?_
        refine G_istore_e (pc := 64) (fun zw => [(5, .int (zI zw)), (4, .int (zI ((g * 6) + r))), (0, .ref (ad1 (40, 0, 0, 0))), (1, .int (zI g)), (2, .int (zI r)), (3, .int (zI p))]) dX7_wouldRead_64 (by decide) (fun _ => rfl) (fun v64 e64 => ?_)
        refine G_aload_n (pc := 66) 0 2 dX7_wouldRead_66 rfl rfl ?_
        refine G_getf (pc := 67) fl_X7_78 dX7_wouldRead_67 mg_40 rfl ?_
        refine G_iload (pc := 70) 1 dX7_wouldRead_70 rfl ?_
        refine G_aload_n (pc := 72) 0 2 dX7_wouldRead_72 rfl rfl ?_
        refine G_getf (pc := 73) fl_X7_78 dX7_wouldRead_73 mg_40 rfl ?_
        refine G_iload (pc := 76) 1 dX7_wouldRead_76 rfl ?_
        refine G_zald (pc := 78) dX7_wouldRead_78 mg_68 ⟨by omega, by omega, by omega, by omega⟩ ?_
        have hb78 := hVS2_56.b68 ((g * 6) + r)
        refine G_if_ne (pc := 79) 86 dX7_wouldRead_79 (by decide) (by first | exact hS _ _ | exact hT _ _ | exact ⟨by omega, by omega⟩ | assumption | exact zWM.r (by assumption) _ _ (by decide)) (fun c79 => ?_) (fun c79 => ?_)
        · refine G_iconst (pc := 86) dX7_wouldRead_86 ?_
          refine G_zast (pc := 87) dX7_wouldRead_87 mg_68 ⟨by omega, by omega, by omega, by omega⟩ (by first | exact zb_ite | omega) (mp_68 _ _) ?_
          refine G_name (fun S3_87 hS3_87 => ?_)
          have hVS3_87 : zWM Q S3_87 := by rw [hS3_87]; exact hVS2_56.s68 ⟨by omega, by omega⟩
          have hfin : S3_87 = zst S (40, 0, 0, 0) 0 0 := by rw [hS3_87, hS2_56, zst_zst, hS1_2]; exact zst_id (by rw [zst_k _ _ _ _ (by simp)]; exact h1)
          refine G_iload (pc := 88) 0 dX7_wouldRead_88 rfl ?_
          refine G_drop hX0 (by decide) had1 ?_
          exact G_iret_m (pc := 90) hF dX7_wouldRead_90 ⟨Nat.le_of_ble_eq_true rfl, Nat.le_of_ble_eq_true rfl⟩ (by first | rw [e64, hS2_56, hS1_2] | rw [e64, hS3_56, hS1_2]) (by rw [hfin])
        · exfalso
          omega
    · exfalso
      first | exact c11 ⟨hg, hp⟩ | omega
set_option maxHeartbeats 4000000 in
set_option maxRecDepth 100000 in
theorem c_X7_wouldRead_1 {l : Launch} {Δ : zDl} {ad : zK → Nat} {P : zP} {S : zS} {X : zMem} {Q : zP} {g r p : Int} (hV : zWM Q S) (h61 : Q 61 0 0 = P 61 0 0) (hX0 : X (90, 0, 0, 0) = none) (hg : 0 ≤ g ∧ g < Q 3 0 0) (hp : 0 ≤ p ∧ p < Q 1 (Q 4 g 0) 0) (hr : 0 ≤ r ∧ r < 6) (h1 : S (68, 0, 0, 0) (g * 6 + r) = 1) : zMn l Δ yX7_wouldRead cX7_wouldRead 6 (some .int) 9 1 4 [.ref (ad (40, 0, 0, 0)), .int (zI g), .int (zI r), .int (zI p)] ad (mm Δ ad P S X) (zD (some (.int (zI (msh Q (zst (zst S (40, 0, 0, 0) 0 0) (68, 0, 0, 0) (g * 6 + r) 0) g p)))) ad (mm Δ ad P (zst S (40, 0, 0, 0) 0 0) X)) := by
  refine zMn_of (by decide) (Nat.le_of_ble_eq_true rfl) (fun Γ hl hΔ hF => ?_)
  subst hl hΔ
  show G Γ _ _ _ RX7 _ _ _ _ _ [(0, .ref (ad (40, 0, 0, 0))), (1, .int (zI g)), (2, .int (zI r)), (3, .int (zI p))] []
  have hq := hV.q
  have hqg := hV.qg hg
  have hqt := hV.qt hqg
  have hgt := hV.gt hg
  have hgn := hV.gn hg
  have hqm := hV.qm hqg hp
  have hen := hV.en hqg hp
  refine G_aload_n (pc := 0) 0 0 dX7_wouldRead_0 rfl rfl ?_
  refine G_iconst (pc := 1) dX7_wouldRead_1 ?_
  refine G_putf (pc := 2) fl_X7_93 fp_X7_0 dX7_wouldRead_2 mg_40 (Nat.le_of_ble_eq_true rfl) rfl rfl (mp_40_0 _) ?_
  refine G_name (fun S1_2 hS1_2 => ?_)
  have hVS1_2 : zWM Q S1_2 := by rw [hS1_2]; exact hV.s40_0 (by first | assumption | exact ⟨by omega, by omega⟩)
  have h68 : S1_2 (68, 0, 0, 0) (g * 6 + r) = S (68, 0, 0, 0) (g * 6 + r) := by rw [hS1_2, zst_k _ _ _ _ (by simp)]
  refine G_aload_n (pc := 5) 0 0 dX7_wouldRead_5 rfl rfl ?_
  refine G_iload_n (pc := 6) 1 1 dX7_wouldRead_6 rfl rfl ?_
  refine G_iload_n (pc := 7) 3 3 dX7_wouldRead_7 rfl rfl ?_
  refine G_callVd (pc := 8) gk_X7_220 dX7_wouldRead_8 mg_40 rfl (c_X7_isShare (Q := Q) (by first | assumption | omega | exact ⟨by omega, by omega⟩ | exact hS _ _ | exact hT _ _) (by first | assumption | omega | exact ⟨by omega, by omega⟩ | exact hS _ _ | exact hT _ _) (by first | assumption | omega | exact ⟨by omega, by omega⟩ | exact hS _ _ | exact hT _ _)) rfl rfl (Nat.le_of_ble_eq_true rfl) ⟨⟨Nat.le_of_ble_eq_true rfl, Nat.le_of_ble_eq_true rfl⟩, Nat.le_of_ble_eq_true rfl, Nat.le_of_ble_eq_true rfl⟩ ?_
  refine G_if_eq_b (pc := 11) 21 dX7_wouldRead_11 (by decide) (fun c11 => ?_) (fun c11 => ?_)
  · exfalso
    first | exact c11 ⟨hg, hp⟩ | omega
  · refine G_iload_n (pc := 14) 2 2 dX7_wouldRead_14 rfl rfl ?_
    refine G_callSd (pc := 15) gk_X7_191 dX7_wouldRead_15 (c_X7_isReader (by first | assumption | omega | exact ⟨by omega, by omega⟩ | exact hS _ _ | exact hT _ _)) rfl rfl (Nat.le_of_ble_eq_true rfl) ⟨⟨Nat.le_of_ble_eq_true rfl, Nat.le_of_ble_eq_true rfl⟩, Nat.le_of_ble_eq_true rfl, Nat.le_of_ble_eq_true rfl⟩ ?_
    refine G_if_ne_b (pc := 18) 27 dX7_wouldRead_18 (by decide) (fun c18 => ?_) (fun c18 => ?_)
    · refine G_iload_n (pc := 27) 1 1 dX7_wouldRead_27 rfl rfl ?_
      refine G_bipush (pc := 28) dX7_wouldRead_28 (by decide) ?_
      refine G_imul (pc := 30) dX7_wouldRead_30 ?_
      refine G_iload_n (pc := 31) 2 2 dX7_wouldRead_31 rfl rfl ?_
      refine G_iadd (pc := 32) dX7_wouldRead_32 ?_
      refine G_istore (pc := 33) [(4, .int (zI ((g * 6) + r))), (0, .ref (ad (40, 0, 0, 0))), (1, .int (zI g)), (2, .int (zI r)), (3, .int (zI p))] dX7_wouldRead_33 (by decide) rfl ?_
      refine G_aload_n (pc := 35) 0 1 dX7_wouldRead_35 rfl rfl ?_
      refine G_getf (pc := 36) fl_X7_78 dX7_wouldRead_36 mg_40 rfl ?_
      refine G_iload (pc := 39) 0 dX7_wouldRead_39 rfl ?_
      refine G_aload_n (pc := 41) 0 1 dX7_wouldRead_41 rfl rfl ?_
      refine G_getf (pc := 42) fl_X7_78 dX7_wouldRead_42 mg_40 rfl ?_
      refine G_iload (pc := 45) 0 dX7_wouldRead_45 rfl ?_
      refine G_zald (pc := 47) dX7_wouldRead_47 mg_68 ⟨by omega, by omega, by omega, by omega⟩ ?_
      have hb47 := hVS1_2.b68 ((g * 6) + r)
      refine G_if_ne (pc := 48) 55 dX7_wouldRead_48 (by decide) (by first | exact hS _ _ | exact hT _ _ | exact ⟨by omega, by omega⟩ | assumption | exact zWM.r (by assumption) _ _ (by decide)) (fun c48 => ?_) (fun c48 => ?_)
      · refine G_iconst (pc := 55) dX7_wouldRead_55 ?_
        refine G_zast (pc := 56) dX7_wouldRead_56 mg_68 ⟨by omega, by omega, by omega, by omega⟩ (by first | exact zb_ite | omega) (mp_68 _ _) ?_
        refine G_name (fun S2_56 hS2_56 => ?_)
        have hVS2_56 : zWM Q S2_56 := by rw [hS2_56]; exact hVS1_2.s68 ⟨by omega, by omega⟩
        have h682 : S2_56 (68, 0, 0, 0) (g * 6 + r) = 0 := by rw [hS2_56, zst_s]
        refine G_aload_n (pc := 57) 0 1 dX7_wouldRead_57 rfl rfl ?_
        refine G_iload_n (pc := 58) 1 2 dX7_wouldRead_58 rfl rfl ?_
        refine G_callV (pc := 59) gk_X7_197 dX7_wouldRead_59 mg_40 rfl (c_X7_shares (Q := Q) (by first | assumption | omega | exact ⟨by omega, by omega⟩ | exact hS _ _ | exact hT _ _) (by first | assumption | omega | exact ⟨by omega, by omega⟩ | exact hS _ _ | exact hT _ _) (by first | assumption | omega | exact ⟨by omega, by omega⟩ | exact hS _ _ | exact hT _ _)) rfl rfl (Nat.le_of_ble_eq_true rfl) ⟨⟨Nat.le_of_ble_eq_true rfl, Nat.le_of_ble_eq_true rfl⟩, Nat.le_of_ble_eq_true rfl, Nat.le_of_ble_eq_true rfl⟩ (fun v59 ad1 M59 hpo => ?_)
        obtain ⟨rfl, had1, rfl⟩ := hpo
        show G Γ _ _ _ _ _ _ (1) (4) 62 [(4, .int (zI ((g * 6) + r))), (0, .ref (ad (40, 0, 0, 0))), (1, .int (zI g)), (2, .int (zI r)), (3, .int (zI p))] [.ref (ad1 (90, 0, 0, 0))]
        rw [← had1 (40, 0, 0, 0) (by decide)]
        refine G_iload_n (pc := 62) 3 4 dX7_wouldRead_62 rfl rfl ?_
        refine G_tial (pc := 63) dX7_wouldRead_63 ⟨by omega, by omega, by omega, by omega⟩ ?_
        refine G_istore_e (pc := 64) (fun zw => [(5, .int (zI zw)), (4, .int (zI ((g * 6) + r))), (0, .ref (ad1 (40, 0, 0, 0))), (1, .int (zI g)), (2, .int (zI r)), (3, .int (zI p))]) dX7_wouldRead_64 (by decide) (fun _ => rfl) (fun v64 e64 => ?_)
        refine G_aload_n (pc := 66) 0 2 dX7_wouldRead_66 rfl rfl ?_
        refine G_getf (pc := 67) fl_X7_78 dX7_wouldRead_67 mg_40 rfl ?_
        refine G_iload (pc := 70) 1 dX7_wouldRead_70 rfl ?_
        refine G_aload_n (pc := 72) 0 2 dX7_wouldRead_72 rfl rfl ?_
        refine G_getf (pc := 73) fl_X7_78 dX7_wouldRead_73 mg_40 rfl ?_
        refine G_iload (pc := 76) 1 dX7_wouldRead_76 rfl ?_
        refine G_zald (pc := 78) dX7_wouldRead_78 mg_68 ⟨by omega, by omega, by omega, by omega⟩ ?_
        have hb78 := hVS2_56.b68 ((g * 6) + r)
        refine G_if_ne (pc := 79) 86 dX7_wouldRead_79 (by decide) (by first | exact hS _ _ | exact hT _ _ | exact ⟨by omega, by omega⟩ | assumption | exact zWM.r (by assumption) _ _ (by decide)) (fun c79 => ?_) (fun c79 => ?_)
        · exfalso
          omega
        · refine G_iconst (pc := 82) dX7_wouldRead_82 ?_
          refine G_goto (pc := 83) 87 dX7_wouldRead_83 (by decide) ?_
          refine G_zast (pc := 87) dX7_wouldRead_87 mg_68 ⟨by omega, by omega, by omega, by omega⟩ (by first | exact zb_ite | omega) (mp_68 _ _) ?_
          refine G_name (fun S3_87 hS3_87 => ?_)
          have hVS3_87 : zWM Q S3_87 := by rw [hS3_87]; exact hVS2_56.s68 ⟨by omega, by omega⟩
          have hfin : S3_87 = zst S (40, 0, 0, 0) 0 0 := by rw [hS3_87, hS2_56, zst_zst, hS1_2]; exact zst_id (by rw [zst_k _ _ _ _ (by simp)]; exact h1)
          refine G_iload (pc := 88) 0 dX7_wouldRead_88 rfl ?_
          refine G_drop hX0 (by decide) had1 ?_
          exact G_iret_m (pc := 90) hF dX7_wouldRead_90 ⟨Nat.le_of_ble_eq_true rfl, Nat.le_of_ble_eq_true rfl⟩ (by first | rw [e64, hS2_56, hS1_2] | rw [e64, hS3_56, hS1_2]) (by rw [hfin])
      · exfalso
        omega
    · exfalso
      first | exact c11 ⟨hg, hp⟩ | omega
