set_option maxHeartbeats 4000000 in
set_option maxRecDepth 100000 in
theorem c_X6_meanTries {l : Launch} {Δ : zDl} {ad : zK → Nat} {P : zP} {S : zS} {X : zMem} {g : Int} (hP : zWP P) (hg : 0 ≤ g ∧ g < P 3 0 0) (hW : zWS P S) (hsu : 0 ≤ sm (fun p => zsu P S g p) 0 (P 1 (P 4 g 0) 0) ∧ sm (fun p => zsu P S g p) 0 (P 1 (P 4 g 0) 0) ≤ 240) (hco : 0 ≤ sm (fun p => zco P S g 3 p) 0 (P 1 (P 4 g 0) 0) ∧ sm (fun p => zco P S g 3 p) 0 (P 1 (P 4 g 0) 0) ≤ 80) : zMn l Δ yX6_meanTries cX6_meanTries 4 (some .double) 9 0 0 [.ref (ad (0, 0, 0, 0)), .int (zI g)] ad (mm Δ ad P S X) (zD (some (.double (zmd (sm (fun p => zsu P S g p) 0 (P 1 (P 4 g 0) 0)) (sm (fun p => zco P S g 3 p) 0 (P 1 (P 4 g 0) 0))))) ad (mm Δ ad P S X)) := by
  refine zMn_of (by decide) (Nat.le_of_ble_eq_true rfl) (fun Γ hl hΔ hF => ?_)
  subst hl hΔ
  show G Γ _ _ _ RX6 _ _ _ _ _ [(0, .ref (ad (0, 0, 0, 0))), (1, .int (zI g))] []
  have hS := hW.R
  have hN := hP.n
  have hk := hW.k
  have hl := hW.l
  have hG := hP.g hg
  have hT := hP.t hG
  refine G_aload_n (pc := 0) 0 0 dX6_meanTries_0 rfl rfl ?_
  refine G_iload_n (pc := 1) 1 1 dX6_meanTries_1 rfl rfl ?_
  refine G_callVd (pc := 2) gk_X6_186 dX6_meanTries_2 mg_0 rfl (c_X6_groupAt (by first | assumption | omega | exact ⟨by omega, by omega⟩ | exact hS _ _ | exact hT _ _) (by first | assumption | omega | exact ⟨by omega, by omega⟩ | exact hS _ _ | exact hT _ _)) rfl rfl (Nat.le_of_ble_eq_true rfl) ⟨⟨Nat.le_of_ble_eq_true rfl, Nat.le_of_ble_eq_true rfl⟩, Nat.le_of_ble_eq_true rfl, Nat.le_of_ble_eq_true rfl⟩ ?_
  refine G_astore_n (pc := 5) 2 [(2, .ref (ad (15, g, 0, 0))), (0, .ref (ad (0, 0, 0, 0))), (1, .int (zI g))] dX6_meanTries_5 rfl (by decide) rfl ?_
  refine G_aload_n (pc := 6) 2 0 dX6_meanTries_6 rfl rfl ?_
  refine G_iconst (pc := 7) dX6_meanTries_7 ?_
  refine G_callVd (pc := 8) gk_X6_260 dX6_meanTries_8 (mg_15 (by first | assumption | omega | exact ⟨by omega, by omega⟩ | exact hS _ _ | exact hT _ _)) rfl (c_X0_countOf (by first | assumption | omega | exact ⟨by omega, by omega⟩ | exact hS _ _ | exact hT _ _) (by first | assumption | omega | exact ⟨by omega, by omega⟩ | exact hS _ _ | exact hT _ _) (by first | assumption | omega | exact ⟨by omega, by omega⟩ | exact hS _ _ | exact hT _ _) (by first | assumption | omega | exact ⟨by omega, by omega⟩ | exact hS _ _ | exact hT _ _)) rfl rfl (Nat.le_of_ble_eq_true rfl) ⟨⟨Nat.le_of_ble_eq_true rfl, Nat.le_of_ble_eq_true rfl⟩, Nat.le_of_ble_eq_true rfl, Nat.le_of_ble_eq_true rfl⟩ ?_
  refine G_istore_n (pc := 11) 3 [(3, .int (zI (sm (fun p => zco P S g 3 p) 0 (P 1 (P 4 g 0) 0)))), (2, .ref (ad (15, g, 0, 0))), (0, .ref (ad (0, 0, 0, 0))), (1, .int (zI g))] dX6_meanTries_11 rfl (by decide) rfl ?_
  refine G_iload_n (pc := 12) 3 0 dX6_meanTries_12 rfl rfl ?_
  refine G_if_ne (pc := 13) 20 dX6_meanTries_13 (by decide) (by first | exact hS _ _ | exact hT _ _ | exact ⟨by omega, by omega⟩ | assumption | exact zWM.r (by assumption) _ _ (by decide)) (fun c13 => ?_) (fun c13 => ?_)
  · refine G_aload_n (pc := 20) 2 1 dX6_meanTries_20 rfl rfl ?_
    refine G_callVd (pc := 21) gk_X6_263 dX6_meanTries_21 (mg_15 (by first | assumption | omega | exact ⟨by omega, by omega⟩ | exact hS _ _ | exact hT _ _)) rfl (c_X0_sumOfTriesOfRead (by first | assumption | omega | exact ⟨by omega, by omega⟩ | exact hS _ _ | exact hT _ _) (by first | assumption | omega | exact ⟨by omega, by omega⟩ | exact hS _ _ | exact hT _ _) (by first | assumption | omega | exact ⟨by omega, by omega⟩ | exact hS _ _ | exact hT _ _)) rfl rfl (Nat.le_of_ble_eq_true rfl) ⟨⟨Nat.le_of_ble_eq_true rfl, Nat.le_of_ble_eq_true rfl⟩, Nat.le_of_ble_eq_true rfl, Nat.le_of_ble_eq_true rfl⟩ ?_
    refine G_i2d (pc := 24) dX6_meanTries_24 ?_
    refine G_iload_n (pc := 25) 3 0 dX6_meanTries_25 rfl rfl ?_
    refine G_i2d (pc := 26) dX6_meanTries_26 ?_
    refine G_ddiv (pc := 27) dX6_meanTries_27 (zdv hsu ⟨by omega, hco.2⟩) ?_
    exact G_dret_m (pc := 28) hF dX6_meanTries_28 ⟨Nat.le_of_ble_eq_true rfl, Nat.le_of_ble_eq_true rfl⟩ (by unfold zmd; first | rw [if_pos c13] | rw [if_neg c13]) rfl
  · refine G_dconst0 (pc := 16) dX6_meanTries_16 ?_
    refine G_goto (pc := 17) 28 dX6_meanTries_17 (by decide) ?_
    exact G_dret_m (pc := 28) hF dX6_meanTries_28 ⟨Nat.le_of_ble_eq_true rfl, Nat.le_of_ble_eq_true rfl⟩ (by unfold zmd; first | rw [if_pos c13] | rw [if_neg c13]) rfl
set_option maxHeartbeats 4000000 in
set_option maxRecDepth 100000 in
theorem c_X6_meanTries_x {l : Launch} {Δ : zDl} {ad : zK → Nat} {P : zP} {S : zS} {X : zMem} {g : Int} (hP : zWP P) (hW : zWS P S) (hr : zR g) (hn : ¬ (0 ≤ g ∧ g < P 3 0 0)) (hst : l.stackTraces = false) : zMx l Δ yX6_meanTries cX6_meanTries 4 (some .double) 9 1 6 [.ref (ad (0, 0, 0, 0)), .int (zI g)] ad (mm Δ ad P S X) zF0 (zE "java/lang/IndexOutOfBoundsException" ad (mm Δ ad P S X)) := by
  refine zMx_of hst (by decide) (Nat.le_of_ble_eq_true rfl) (fun Γ hl hΔ hF hX => ?_)
  subst hl hΔ
  show G Γ _ _ _ RX6 _ _ _ _ _ [(0, .ref (ad (0, 0, 0, 0))), (1, .int (zI g))] []
  refine G_aload_n (pc := 0) 0 0 dX6_meanTries_0 rfl rfl ?_
  refine G_iload_n (pc := 1) 1 1 dX6_meanTries_1 rfl rfl ?_
  exact G_callVt (pc := 2) gk_X6_186 dX6_meanTries_2 mg_0 rfl (c_X6_groupAt_x (by first | assumption | omega | exact ⟨by omega, by omega⟩ | exact hS _ _ | exact hT _ _) (by first | assumption | omega | exact ⟨by omega, by omega⟩ | exact hS _ _ | exact hT _ _) (by first | assumption | omega | exact ⟨by omega, by omega⟩ | exact hS _ _ | exact hT _ _) hst) rfl rfl (Nat.le_of_ble_eq_true rfl) ⟨⟨Nat.le_of_ble_eq_true rfl, Nat.le_of_ble_eq_true rfl⟩, Nat.le_of_ble_eq_true rfl, Nat.le_of_ble_eq_true rfl⟩ hX ⟨Nat.le_of_ble_eq_true rfl, Nat.le_of_ble_eq_true rfl⟩ ⟨rfl, rfl, rfl⟩
set_option maxHeartbeats 4000000 in
set_option maxRecDepth 100000 in
theorem c_X7_meanTries {l : Launch} {Δ : zDl} {ad : zK → Nat} {P : zP} {S : zS} {X : zMem} {Q : zP} {g : Int} (hV : zWM Q S) (hg : 0 ≤ g ∧ g < Q 3 0 0) (h61 : Q 61 0 0 = P 61 0 0) : zMn l Δ yX7_meanTries cX7_meanTries 4 (some .double) 9 0 0 [.ref (ad (40, 0, 0, 0)), .int (zI g)] ad (mm Δ ad P S X) (zD (some (.double (zmd (msu (zst S (40, 0, 0, 0) 0 0) g) (mco (zst S (40, 0, 0, 0) 0 0) g 3)))) ad (mm Δ ad P (zst S (40, 0, 0, 0) 0 0) X)) := by
  refine zMn_of (by decide) (Nat.le_of_ble_eq_true rfl) (fun Γ hl hΔ hF => ?_)
  subst hl hΔ
  show G Γ _ _ _ RX7 _ _ _ _ _ [(0, .ref (ad (40, 0, 0, 0))), (1, .int (zI g))] []
  have hq := hV.q
  have h23 := hV.g23
  refine G_aload_n (pc := 0) 0 0 dX7_meanTries_0 rfl rfl ?_
  refine G_aload_n (pc := 1) 0 0 dX7_meanTries_1 rfl rfl ?_
  refine G_iload_n (pc := 2) 1 1 dX7_meanTries_2 rfl rfl ?_
  refine G_callVd (pc := 3) gk_X7_110 dX7_meanTries_3 mg_40 rfl (c_X7_isGroup (Q := Q) (by first | assumption | omega | exact ⟨by omega, by omega⟩ | exact hS _ _ | exact hT _ _) (by first | assumption | omega | exact ⟨by omega, by omega⟩ | exact hS _ _ | exact hT _ _)) rfl rfl (Nat.le_of_ble_eq_true rfl) ⟨⟨Nat.le_of_ble_eq_true rfl, Nat.le_of_ble_eq_true rfl⟩, Nat.le_of_ble_eq_true rfl, Nat.le_of_ble_eq_true rfl⟩ ?_
  refine G_if_eq_b (pc := 6) 13 dX7_meanTries_6 (by decide) (fun c6 => ?_) (fun c6 => ?_)
  · exfalso
    omega
  · refine G_iconst (pc := 9) dX7_meanTries_9 ?_
    refine G_goto (pc := 10) 14 dX7_meanTries_10 (by decide) ?_
    refine G_putf (pc := 14) fl_X7_93 fp_X7_0 dX7_meanTries_14 mg_40 (Nat.le_of_ble_eq_true rfl) rfl rfl (mp_40_0 _) ?_
    refine G_name (fun S1_14 hS1_14 => ?_)
    have hVS1_14 : zWM Q S1_14 := by rw [hS1_14]; exact hV.s40_0 (by first | assumption | exact ⟨by omega, by omega⟩)
    have h0 : S1_14 (40, 0, 0, 0) 0 = 0 := by rw [hS1_14, zst_s]
    have h11 := hVS1_14.f11
    refine G_aload_n (pc := 17) 0 0 dX7_meanTries_17 rfl rfl ?_
    refine G_getf (pc := 18) fl_X7_93 dX7_meanTries_18 mg_40 rfl ?_
    refine G_if_eq (pc := 21) 26 dX7_meanTries_21 (by decide) (by first | exact hS _ _ | exact hT _ _ | exact ⟨by omega, by omega⟩ | assumption | exact zWM.r (by assumption) _ _ (by decide)) (fun c21 => ?_) (fun c21 => ?_)
    · refine G_iconst (pc := 26) dX7_meanTries_26 ?_
      refine G_istore_ne (pc := 27) 2 (fun zw => [(2, .int (zI zw)), (0, .ref (ad (40, 0, 0, 0))), (1, .int (zI g))]) dX7_meanTries_27 rfl (by decide) (fun _ => rfl) (fun v27 e27 => ?_)
      refine G_iconst (pc := 28) dX7_meanTries_28 ?_
      refine G_istore_ne (pc := 29) 3 (fun zw => [(3, .int (zI zw)), (2, .int (zI v27)), (0, .ref (ad (40, 0, 0, 0))), (1, .int (zI g))]) dX7_meanTries_29 rfl (by decide) (fun _ => rfl) (fun v29 e29 => ?_)
      have L30 : ∀ (n : Nat) (k : Int) (o : Int), ((0 ≤ o ∧ o ≤ S1_14 (40, 0, 0, 0) 11) ∧ k + sm (fun m => if S1_14 (69, 0, 0, 0) (g * 80 + m) = 3 then S1_14 (70, 0, 0, 0) (g * 80 + m) else 0) o (S1_14 (40, 0, 0, 0) 11) = msu S1_14 g) → (S1_14 (40, 0, 0, 0) 11 - o).toNat < n → G Γ (zRm 9 0 0) cX7_meanTries 4 RX7 ad (mm (z_d Γ) ad P S1_14 X) 0 0 30 [(0, .ref (ad (40, 0, 0, 0))), (1, .int (zI g)), (2, .int (zI k)), (3, .int (zI o))] [] := by
        intro n
        induction n with
        | zero => intro k o _ hn; omega
        | succ n ih30 =>
          intro k o hi30 hn30
          refine G_iload_n (pc := 30) 3 3 dX7_meanTries_30 rfl rfl ?_
          refine G_aload_n (pc := 31) 0 0 dX7_meanTries_31 rfl rfl ?_
          refine G_getf (pc := 32) fl_X7_140 dX7_meanTries_32 mg_40 rfl ?_
          have hb32 := hVS1_14.f11
          refine G_icmp_ge (pc := 35) 77 dX7_meanTries_35 (by decide) (by first | exact hS _ _ | exact hT _ _ | exact ⟨by omega, by omega⟩ | assumption | exact zWM.r (by assumption) _ _ (by decide)) (by first | exact hS _ _ | exact hT _ _ | exact ⟨by omega, by omega⟩ | assumption | exact zWM.r (by assumption) _ _ (by decide)) (fun c35 => ?_) (fun c35 => ?_)
          · have hsu : k = msu S1_14 g := by rw [← hi30.2, sm_end (by omega)]; omega
            have hsl := msu_le hVS1_14 (g := g)
            have hcl := mco_le hVS1_14 (g := g) (x := 3)
            refine G_aload_n (pc := 77) 0 0 dX7_meanTries_77 rfl rfl ?_
            refine G_iload_n (pc := 78) 1 1 dX7_meanTries_78 rfl rfl ?_
            refine G_iconst (pc := 79) dX7_meanTries_79 ?_
            refine G_callVd (pc := 80) gk_X7_237 dX7_meanTries_80 mg_40 rfl (c_X7_countOf (Q := Q) (by first | assumption | omega | exact ⟨by omega, by omega⟩ | exact hS _ _ | exact hT _ _) (by first | assumption | omega | exact ⟨by omega, by omega⟩ | exact hS _ _ | exact hT _ _) (by first | assumption | omega | exact ⟨by omega, by omega⟩ | exact hS _ _ | exact hT _ _)) rfl rfl (Nat.le_of_ble_eq_true rfl) ⟨⟨Nat.le_of_ble_eq_true rfl, Nat.le_of_ble_eq_true rfl⟩, Nat.le_of_ble_eq_true rfl, Nat.le_of_ble_eq_true rfl⟩ ?_
            refine G_if_ne (pc := 83) 90 dX7_meanTries_83 (by decide) (by first | exact hS _ _ | exact hT _ _ | exact ⟨by omega, by omega⟩ | assumption | exact zWM.r (by assumption) _ _ (by decide)) (fun c83 => ?_) (fun c83 => ?_)
            · refine G_iload_n (pc := 90) 2 2 dX7_meanTries_90 rfl rfl ?_
              refine G_i2d (pc := 91) dX7_meanTries_91 ?_
              refine G_aload_n (pc := 92) 0 0 dX7_meanTries_92 rfl rfl ?_
              refine G_iload_n (pc := 93) 1 1 dX7_meanTries_93 rfl rfl ?_
              refine G_iconst (pc := 94) dX7_meanTries_94 ?_
              refine G_callVd (pc := 95) gk_X7_237 dX7_meanTries_95 mg_40 rfl (c_X7_countOf (Q := Q) (by first | assumption | omega | exact ⟨by omega, by omega⟩ | exact hS _ _ | exact hT _ _) (by first | assumption | omega | exact ⟨by omega, by omega⟩ | exact hS _ _ | exact hT _ _) (by first | assumption | omega | exact ⟨by omega, by omega⟩ | exact hS _ _ | exact hT _ _)) rfl rfl (Nat.le_of_ble_eq_true rfl) ⟨⟨Nat.le_of_ble_eq_true rfl, Nat.le_of_ble_eq_true rfl⟩, Nat.le_of_ble_eq_true rfl, Nat.le_of_ble_eq_true rfl⟩ ?_
              refine G_i2d (pc := 98) dX7_meanTries_98 ?_
              refine G_ddiv (pc := 99) dX7_meanTries_99 (zdv ⟨by omega, by omega⟩ ⟨by omega, by omega⟩) ?_
              exact G_dret_m (pc := 100) hF dX7_meanTries_100 ⟨Nat.le_of_ble_eq_true rfl, Nat.le_of_ble_eq_true rfl⟩ (by rw [← hS1_14, ← hsu]; unfold zmd; first | rw [if_pos c83] | rw [if_neg c83]) (by rw [hS1_14])
            · refine G_dconst0 (pc := 86) dX7_meanTries_86 ?_
              refine G_goto (pc := 87) 100 dX7_meanTries_87 (by decide) ?_
              exact G_dret_m (pc := 100) hF dX7_meanTries_100 ⟨Nat.le_of_ble_eq_true rfl, Nat.le_of_ble_eq_true rfl⟩ (by rw [← hS1_14, ← hsu]; unfold zmd; first | rw [if_pos c83] | rw [if_neg c83]) (by rw [hS1_14])
          · refine G_iload_n (pc := 38) 2 2 dX7_meanTries_38 rfl rfl ?_
            refine G_aload_n (pc := 39) 0 0 dX7_meanTries_39 rfl rfl ?_
            refine G_getf (pc := 40) fl_X7_81 dX7_meanTries_40 mg_40 rfl ?_
            refine G_iload_n (pc := 43) 1 1 dX7_meanTries_43 rfl rfl ?_
            refine G_bipush (pc := 44) dX7_meanTries_44 (by decide) ?_
            refine G_imul (pc := 46) dX7_meanTries_46 ?_
            refine G_iload_n (pc := 47) 3 3 dX7_meanTries_47 rfl rfl ?_
            refine G_iadd (pc := 48) dX7_meanTries_48 ?_
            refine G_iald (pc := 49) dX7_meanTries_49 mg_69 ⟨by omega, by omega, by omega, by omega⟩ ?_
            have hb49 := hVS1_14.b69 ((g * 80) + o)
            refine G_iconst (pc := 50) dX7_meanTries_50 ?_
            refine G_icmp_ne (pc := 51) 68 dX7_meanTries_51 (by decide) (by first | exact hS _ _ | exact hT _ _ | exact ⟨by omega, by omega⟩ | assumption | exact zWM.r (by assumption) _ _ (by decide)) (by first | exact hS _ _ | exact hT _ _ | exact ⟨by omega, by omega⟩ | assumption | exact zWM.r (by assumption) _ _ (by decide)) (fun c51 => ?_) (fun c51 => ?_)
            · refine G_iconst (pc := 68) dX7_meanTries_68 ?_
              refine G_iadd (pc := 69) dX7_meanTries_69 ?_
              refine G_istore_ne (pc := 70) 2 (fun zw => [(2, .int (zI zw)), (0, .ref (ad (40, 0, 0, 0))), (1, .int (zI g)), (3, .int (zI o))]) dX7_meanTries_70 rfl (by decide) (fun _ => rfl) (fun v70 e70 => ?_)
              refine G_iinc_e (pc := 71) 3 (fun zw => [(3, .int (zI zw)), (2, .int (zI v70)), (0, .ref (ad (40, 0, 0, 0))), (1, .int (zI g))]) dX7_meanTries_71 rfl (by decide) (fun _ => rfl) (fun v71 e71 => ?_)
              refine G_goto (pc := 74) 30 dX7_meanTries_74 (by decide) ?_
              refine G_perm (lv' := [(0, .ref (ad (40, 0, 0, 0))), (1, .int (zI g)), (2, .int (zI v70)), (3, .int (zI v71))]) [2, 3, 1, 0] rfl ?_
              exact ih30 v70 v71  ⟨by omega, by rw [← hi30.2, sm_step (a := o) (n := S1_14 (40, 0, 0, 0) 11) (by omega), e71]; first | (rw [if_pos c51]; omega) | (rw [if_neg c51]; omega)⟩ (by omega)
            · refine G_aload_n (pc := 54) 0 0 dX7_meanTries_54 rfl rfl ?_
              refine G_getf (pc := 55) fl_X7_84 dX7_meanTries_55 mg_40 rfl ?_
              refine G_iload_n (pc := 58) 1 1 dX7_meanTries_58 rfl rfl ?_
              refine G_bipush (pc := 59) dX7_meanTries_59 (by decide) ?_
              refine G_imul (pc := 61) dX7_meanTries_61 ?_
              refine G_iload_n (pc := 62) 3 3 dX7_meanTries_62 rfl rfl ?_
              refine G_iadd (pc := 63) dX7_meanTries_63 ?_
              refine G_iald (pc := 64) dX7_meanTries_64 mg_70 ⟨by omega, by omega, by omega, by omega⟩ ?_
              have hb64 := hVS1_14.b70 ((g * 80) + o)
              refine G_goto (pc := 65) 69 dX7_meanTries_65 (by decide) ?_
              refine G_iadd (pc := 69) dX7_meanTries_69 ?_
              refine G_istore_ne (pc := 70) 2 (fun zw => [(2, .int (zI zw)), (0, .ref (ad (40, 0, 0, 0))), (1, .int (zI g)), (3, .int (zI o))]) dX7_meanTries_70 rfl (by decide) (fun _ => rfl) (fun v70 e70 => ?_)
              refine G_iinc_e (pc := 71) 3 (fun zw => [(3, .int (zI zw)), (2, .int (zI v70)), (0, .ref (ad (40, 0, 0, 0))), (1, .int (zI g))]) dX7_meanTries_71 rfl (by decide) (fun _ => rfl) (fun v71 e71 => ?_)
              refine G_goto (pc := 74) 30 dX7_meanTries_74 (by decide) ?_
              refine G_perm (lv' := [(0, .ref (ad (40, 0, 0, 0))), (1, .int (zI g)), (2, .int (zI v70)), (3, .int (zI v71))]) [2, 3, 1, 0] rfl ?_
              exact ih30 v70 v71  ⟨by omega, by rw [← hi30.2, sm_step (a := o) (n := S1_14 (40, 0, 0, 0) 11) (by omega), e71]; first | (rw [if_pos c51]; omega) | (rw [if_neg c51]; omega)⟩ (by omega)
      refine G_perm (lv' := [(0, .ref (ad (40, 0, 0, 0))), (1, .int (zI g)), (2, .int (zI v27)), (3, .int (zI v29))]) [2, 3, 1, 0] rfl ?_
      exact L30 _ v27 v29  ⟨by omega, by rw [e27, e29]; exact Int.zero_add _⟩ (Nat.lt_succ_self _)
    · exfalso
      omega
set_option maxHeartbeats 4000000 in
set_option maxRecDepth 100000 in
theorem c_X7_meanTries_x {l : Launch} {Δ : zDl} {ad : zK → Nat} {P : zP} {S : zS} {X : zMem} {Q : zP} {g : Int} (hV : zWM Q S) (hrg : zR g) (hn : ¬ (0 ≤ g ∧ g < Q 3 0 0)) : zMn l Δ yX7_meanTries cX7_meanTries 4 (some .double) 9 0 0 [.ref (ad (40, 0, 0, 0)), .int (zI g)] ad (mm Δ ad P S X) (zD (some (.double (FP.dconst0))) ad (mm Δ ad P (zst S (40, 0, 0, 0) 0 1) X)) := by
  refine zMn_of (by decide) (Nat.le_of_ble_eq_true rfl) (fun Γ hl hΔ hF => ?_)
  subst hl hΔ
  show G Γ _ _ _ RX7 _ _ _ _ _ [(0, .ref (ad (40, 0, 0, 0))), (1, .int (zI g))] []
  have hq := hV.q
  have h23 := hV.g23
  refine G_aload_n (pc := 0) 0 0 dX7_meanTries_0 rfl rfl ?_
  refine G_aload_n (pc := 1) 0 0 dX7_meanTries_1 rfl rfl ?_
  refine G_iload_n (pc := 2) 1 1 dX7_meanTries_2 rfl rfl ?_
  refine G_callVd (pc := 3) gk_X7_110 dX7_meanTries_3 mg_40 rfl (c_X7_isGroup (Q := Q) (by first | assumption | omega | exact ⟨by omega, by omega⟩ | exact hS _ _ | exact hT _ _) (by first | assumption | omega | exact ⟨by omega, by omega⟩ | exact hS _ _ | exact hT _ _)) rfl rfl (Nat.le_of_ble_eq_true rfl) ⟨⟨Nat.le_of_ble_eq_true rfl, Nat.le_of_ble_eq_true rfl⟩, Nat.le_of_ble_eq_true rfl, Nat.le_of_ble_eq_true rfl⟩ ?_
  refine G_if_eq_b (pc := 6) 13 dX7_meanTries_6 (by decide) (fun c6 => ?_) (fun c6 => ?_)
  · refine G_iconst (pc := 13) dX7_meanTries_13 ?_
    refine G_putf (pc := 14) fl_X7_93 fp_X7_0 dX7_meanTries_14 mg_40 (Nat.le_of_ble_eq_true rfl) rfl rfl (mp_40_0 _) ?_
    refine G_name (fun S1_14 hS1_14 => ?_)
    have hVS1_14 : zWM Q S1_14 := by rw [hS1_14]; exact hV.s40_0 (by first | assumption | exact ⟨by omega, by omega⟩)
    have h0 : S1_14 (40, 0, 0, 0) 0 = 1 := by rw [hS1_14, zst_s]
    refine G_aload_n (pc := 17) 0 0 dX7_meanTries_17 rfl rfl ?_
    refine G_getf (pc := 18) fl_X7_93 dX7_meanTries_18 mg_40 rfl ?_
    refine G_if_eq (pc := 21) 26 dX7_meanTries_21 (by decide) (by first | exact hS _ _ | exact hT _ _ | exact ⟨by omega, by omega⟩ | assumption | exact zWM.r (by assumption) _ _ (by decide)) (fun c21 => ?_) (fun c21 => ?_)
    · exfalso
      omega
    · refine G_dconst0 (pc := 24) dX7_meanTries_24 ?_
      exact G_dret_m (pc := 25) hF dX7_meanTries_25 ⟨Nat.le_of_ble_eq_true rfl, Nat.le_of_ble_eq_true rfl⟩ rfl (by rw [hS1_14])
  · exfalso
    omega
