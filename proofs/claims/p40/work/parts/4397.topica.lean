/-! ===== the Pier's acts: addTopic ===== -/
set_option maxHeartbeats 4000000 in
set_option maxRecDepth 100000 in
theorem c_X7_addTopic {l : Launch} {Δ : zDl} {ad : zK → Nat} {Q : zP} {V : zS} {X : zMem} {Q1 : zP} (hJ : zJ Q V) (hX : X = mm Δ ad Q V z00) (hL : Δ.2.2.2.2.1 ≤ 3072) (hD : V (200, 0, 0, 0) 2 ≤ 930000) (h4 : V (0, 0, 0, 0) 4 ≤ 190) (hQ1 : Q1 0 0 0 ≤ Q 0 0 0 + 1 ∧ Q1 0 0 0 ≤ 4) (hQ3 : Q1 3 0 0 ≤ Q 3 0 0) : zMn l Δ yX7_addTopic cX7_addTopic 4 (some .boolean) 10 20 230 [.ref (ad (200, 0, 0, 0))] ad (pm Δ ad Q V X) (zAct Δ ad Q1 V 1000) := by
  refine zMn_of (by decide) (Nat.le_of_ble_eq_true rfl) (fun Γ hl hΔ hF => ?_)
  subst hl hΔ
  show G Γ _ _ _ RX7 _ _ _ _ _ [(0, .ref (ad (200, 0, 0, 0)))] []
  have hP := hJ.wp
  have hV := hJ.wv
  have hq := hP.n
  have hdw := hV.dw
  refine G_aload_n (pc := 0) 0 0 dX7_addTopic_0 rfl rfl ?_
  refine G_getf (pc := 1) fl_X7_25 dX7_addTopic_1 pg_200 rfl ?_
  refine G_alenV (pc := 4) (t := 7) (Q 0 0 0) rfl dX7_addTopic_4 pg_201 (by omega) ?_
  refine G_iconst (pc := 5) dX7_addTopic_5 ?_
  refine G_icmp_ne (pc := 6) 11 dX7_addTopic_6 (by decide) (by first | exact zWV.R (by assumption) _ _ | exact ⟨by omega, by omega⟩ | assumption | (subst_vars; first | exact zWV.R (by assumption) _ _ | exact ⟨by omega, by omega⟩)) (by first | exact zWV.R (by assumption) _ _ | exact ⟨by omega, by omega⟩ | assumption | (subst_vars; first | exact zWV.R (by assumption) _ _ | exact ⟨by omega, by omega⟩)) (fun c6 => ?_) (fun c6 => ?_)
  · refine G_iconst (pc := 11) dX7_addTopic_11 ?_
    refine G_aload_n (pc := 12) 0 0 dX7_addTopic_12 rfl rfl ?_
    refine G_iconst (pc := 13) dX7_addTopic_13 ?_
    refine G_callV (pc := 14) gk_X7_94 dX7_addTopic_14 pg_200 rfl (c_X7_draw (n := 3) hV (by assumption) ⟨by omega, by omega⟩) rfl rfl (Nat.le_of_ble_eq_true rfl) ⟨⟨Nat.le_of_ble_eq_true rfl, Nat.le_of_ble_eq_true rfl⟩, Nat.le_of_ble_eq_true rfl, Nat.le_of_ble_eq_true rfl⟩ (fun vx adx Mx hpo => ?_)
    obtain ⟨r14, hr14, rfl, hadx, rfl⟩ := hpo
    rw [hadx]
    show G Γ _ _ _ _ _ _ (0) (0) 17 [(0, .ref (ad (200, 0, 0, 0)))] [.int (zI r14), .int (zI 1)]
    refine G_nameV (fun V1_14 hV1_14 => ?_)
    have hVV1_14 : zWV Q V1_14 := by rw [hV1_14]; exact hV.s200_2 ⟨by omega, by omega⟩
    have hdV1_14 : V1_14 (200, 0, 0, 0) 2 = V (200, 0, 0, 0) 2 + 1 := by rw [hV1_14, zst_s]
    have hfV1_14 : ∀ k f, k ≠ (200, 0, 0, 0) → V1_14 k f = V k f := fun k f hk => by rw [hV1_14, zst_k _ _ _ _ hk]
    have hJV1_14 : zJ Q V1_14 := by rw [hV1_14]; exact zJ_dr hJ ⟨by omega, by omega⟩
    have hXV1_14 : X = mm (z_d Γ) ad Q V1_14 z00 := by rw [hV1_14, mm_st (by decide)]; exact hX
    refine G_iadd (pc := 17) dX7_addTopic_17 ?_
    refine G_istore_ne (pc := 18) 1 (fun zw => [(1, .int (zI zw)), (0, .ref (ad (200, 0, 0, 0)))]) dX7_addTopic_18 rfl (by decide) (fun _ => rfl) (fun v18 e18 => ?_)
    refine G_aload_n (pc := 19) 0 1 dX7_addTopic_19 rfl rfl ?_
    refine G_getf (pc := 20) fl_X7_25 dX7_addTopic_20 pg_200 rfl ?_
    refine G_alenV (pc := 23) (t := 7) (Q 0 0 0) rfl dX7_addTopic_23 pg_201 (by omega) ?_
    refine G_istore_n (pc := 24) 2 [(2, .int (zI (Q 0 0 0))), (1, .int (zI v18)), (0, .ref (ad (200, 0, 0, 0)))] dX7_addTopic_24 rfl (by decide) rfl ?_
    refine G_aload_n (pc := 25) 0 2 dX7_addTopic_25 rfl rfl ?_
    refine G_getf (pc := 26) fl_X7_29 dX7_addTopic_26 pg_200 rfl ?_
    refine G_iload_n (pc := 29) 2 0 dX7_addTopic_29 rfl rfl ?_
    refine G_aload_n (pc := 30) 0 2 dX7_addTopic_30 rfl rfl ?_
    refine G_iconst (pc := 31) dX7_addTopic_31 ?_
    refine G_callV (pc := 32) gk_X7_94 dX7_addTopic_32 pg_200 rfl (c_X7_draw (n := 2) hVV1_14 (by assumption) ⟨by omega, by omega⟩) rfl rfl (Nat.le_of_ble_eq_true rfl) ⟨⟨Nat.le_of_ble_eq_true rfl, Nat.le_of_ble_eq_true rfl⟩, Nat.le_of_ble_eq_true rfl, Nat.le_of_ble_eq_true rfl⟩ (fun vx adx Mx hpo => ?_)
    obtain ⟨r32, hr32, rfl, hadx, rfl⟩ := hpo
    rw [hadx]
    show G Γ _ _ _ _ _ _ (0) (0) 35 [(2, .int (zI (Q 0 0 0))), (1, .int (zI v18)), (0, .ref (ad (200, 0, 0, 0)))] [.int (zI r32), .int (zI (Q 0 0 0)), .ref (ad (205, 0, 0, 0))]
    refine G_nameV (fun V2_32 hV2_32 => ?_)
    have hVV2_32 : zWV Q V2_32 := by rw [hV2_32]; exact hVV1_14.s200_2 ⟨by omega, by omega⟩
    have hdV2_32 : V2_32 (200, 0, 0, 0) 2 = V1_14 (200, 0, 0, 0) 2 + 1 := by rw [hV2_32, zst_s]
    have hfV2_32 : ∀ k f, k ≠ (200, 0, 0, 0) → V2_32 k f = V1_14 k f := fun k f hk => by rw [hV2_32, zst_k _ _ _ _ hk]
    have hJV2_32 : zJ Q V2_32 := by rw [hV2_32]; exact zJ_dr hJV1_14 ⟨by omega, by omega⟩
    have hXV2_32 : X = mm (z_d Γ) ad Q V2_32 z00 := by rw [hV2_32, mm_st (by decide)]; exact hXV1_14
    refine G_if_ne (pc := 35) 42 dX7_addTopic_35 (by decide) (by first | exact zWV.R (by assumption) _ _ | exact ⟨by omega, by omega⟩ | assumption | (subst_vars; first | exact zWV.R (by assumption) _ _ | exact ⟨by omega, by omega⟩)) (fun c35 => ?_) (fun c35 => ?_)
    · refine G_iconst (pc := 42) dX7_addTopic_42 ?_
      refine G_zast (pc := 43) dX7_addTopic_43 pg_205 ⟨by omega, by omega, by omega, by omega⟩ (by first | exact zb_ite | omega) pp_205 ?_
      refine G_nameV (fun V3_43 hV3_43 => ?_)
      have hVV3_43 : zWV Q V3_43 := by rw [hV3_43]; exact hVV2_32.s8_1 (by first | exact zb_ite | omega)
      obtain ⟨N, hN⟩ : ∃ N : Nat, v18 = (N : Int) := ⟨v18.toNat, by omega⟩
      rw [hV3_43, hN]
      exact w_X7_addTopic (V := V) (D := V2_32) hQ1.1 hQ3 hF hJV2_32 hXV2_32 ⟨by omega, by omega⟩ (by omega) (by first | exact Or.inl rfl | exact Or.inr rfl) (by omega) (by rw [hfV2_32 _ _ (by decide), hfV1_14 _ _ (by decide)]) (by rw [hfV2_32 _ _ (by decide), hfV1_14 _ _ (by decide)]) (by rw [hfV2_32 _ _ (by decide), hfV1_14 _ _ (by decide)])
    · refine G_iconst (pc := 38) dX7_addTopic_38 ?_
      refine G_goto (pc := 39) 43 dX7_addTopic_39 (by decide) ?_
      refine G_zast (pc := 43) dX7_addTopic_43 pg_205 ⟨by omega, by omega, by omega, by omega⟩ (by first | exact zb_ite | omega) pp_205 ?_
      refine G_nameV (fun V4_43 hV4_43 => ?_)
      have hVV4_43 : zWV Q V4_43 := by rw [hV4_43]; exact hVV2_32.s8_1 (by first | exact zb_ite | omega)
      obtain ⟨N, hN⟩ : ∃ N : Nat, v18 = (N : Int) := ⟨v18.toNat, by omega⟩
      rw [hV4_43, hN]
      exact w_X7_addTopic (V := V) (D := V2_32) hQ1.1 hQ3 hF hJV2_32 hXV2_32 ⟨by omega, by omega⟩ (by omega) (by first | exact Or.inl rfl | exact Or.inr rfl) (by omega) (by rw [hfV2_32 _ _ (by decide), hfV1_14 _ _ (by decide)]) (by rw [hfV2_32 _ _ (by decide), hfV1_14 _ _ (by decide)]) (by rw [hfV2_32 _ _ (by decide), hfV1_14 _ _ (by decide)])
  · refine G_iconst (pc := 9) dX7_addTopic_9 ?_
    exact G_zret (pc := 10) hF dX7_addTopic_10 ⟨Nat.le_of_ble_eq_true rfl, Nat.le_of_ble_eq_true rfl⟩ (by first | exact zb_ite | omega) ⟨rfl, Q, V, ⟨rfl, rfl⟩, by rw [hX]; rfl, hJ, by omega, by omega, by omega, by omega, by omega, by omega⟩
