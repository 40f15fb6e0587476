/-! ===== the Pier's acts: setPatience, setKeep ===== -/
section ZACT1
variable {P : zP} {V : zS}
theorem zK0.o0 (h : zK0 P V) {f v : Int} (hf : f ≠ 6) : zK0 P (zst V (0, 0, 0, 0) f v) := ⟨s7_fr zfr_1 rfl rfl h.1, fun t p o a b c d => by
  rw [zst_k _ _ _ _ (by simp)]
  rw [zst_k _ _ _ _ (by simp)] at d
  exact h.2.1 t p o a b c d, h.2.2.mono (zst_k _ _ _ _ (by simp)) (fun f => zst_k _ _ _ _ (by simp)) (by rw [zst_o (Ne.symm hf)]; omega) (fun g p o _ _ _ q => by rw [zst_k _ _ _ _ (by simp)] at q; exact q)⟩
theorem zJ_pat (h : zJ P V) {x y : Int} (hx : 1 ≤ x ∧ x ≤ 20) (hy : 1 ≤ y ∧ y ≤ 50) : zJ P (zst (zst V (0, 0, 0, 0) 7 x) (0, 0, 0, 0) 8 y) := by
  have hf : zfr (fun n => n == 0) V (zst (zst V (0, 0, 0, 0) 7 x) (0, 0, 0, 0) 8 y) := (zfr.rf.st rfl).st rfl
  obtain ⟨h1, ⟨M, hM⟩, h3, h4, h5⟩ := h
  refine ⟨(h1.s0 ⟨by omega, by omega⟩ ⟨fun q => by omega, fun _ => by omega, fun q => by omega⟩ (fun q => by omega) (fun q => by omega)).s0 ⟨by omega, by omega⟩ ⟨fun q => by omega, fun q => by omega, fun _ => by omega⟩ (fun q => by omega) (fun q => by omega), ⟨_, o_patience hM hx hy⟩, zTr_fr (by rw [zst_o (by decide), zst_o (by decide)]) (fun _ => hf _ _ rfl) (fun _ _ _ _ _ => hf _ _ rfl) (fun _ => hf _ _ rfl) (fun _ => hf _ _ rfl) h3, zHD_k hf ⟨rfl, rfl, rfl, rfl⟩ h4, (h5.o0 (by decide)).o0 (by decide)⟩
theorem zJ_keep (h : zJ P V) {t k : Int} (ht : inT P t) (hk : 0 ≤ k ∧ k ≤ 200) : zJ P (zst V (8, t, 0, 0) 3 k) := by
  have hf : zfr (fun n => n == 8) V (zst V (8, t, 0, 0) 3 k) := zfr_1
  obtain ⟨h1, ⟨M, hM⟩, h3, h4, h5⟩ := h
  refine ⟨h1.s8_3 hk, ⟨_, o_keep hM ht hk⟩, zTr_k hf ⟨rfl, rfl, rfl, rfl, rfl⟩ h3, ⟨fun t' ht' => ?_, fun g r hg => by rw [hf _ _ rfl]; exact h4.2.1 g r hg, h4.2.2⟩, h5.fr (hf.mono (fun n hn => by simp at hn; subst hn; rfl))⟩
  have := h4.1 t' ht'
  rw [zst_k _ _ _ _ (fun q => by have e : t' = t := congrArg (fun z => z.2.1) q; omega)]
  exact ⟨this.1, fun x => by rw [hf _ _ rfl]; exact this.2.1 x, fun p => by rw [hf _ _ rfl]; exact this.2.2 p⟩
end ZACT1
set_option maxHeartbeats 4000000 in
set_option maxRecDepth 100000 in
theorem c_X7_setPatience {l : Launch} {Δ : zDl} {ad : zK → Nat} {Q : zP} {V : zS} {X : zMem}  (hJ : zJ Q V) (hX : X = mm Δ ad Q V z00) (hL : Δ.2.2.2.2.1 ≤ 3072) (hD : V (200, 0, 0, 0) 2 ≤ 930000) (h4 : V (0, 0, 0, 0) 4 ≤ 190) : zMn l Δ yX7_setPatience cX7_setPatience 2 (some .boolean) 10 0 0 [.ref (ad (200, 0, 0, 0))] ad (pm Δ ad Q V X) (zAct Δ ad Q V 1000) := by
  refine zMn_of (by decide) (Nat.le_of_ble_eq_true rfl) (fun Γ hl hΔ hF => ?_)
  subst hl hΔ
  show G Γ _ _ _ RX7 _ _ _ _ _ [(0, .ref (ad (200, 0, 0, 0)))] []
  have hP := hJ.wp
  have hV := hJ.wv
  have hq := hP.n
  have hdw := hV.dw
  have hk := hV.W.k
  refine G_aload_n (pc := 0) 0 0 dX7_setPatience_0 rfl rfl ?_
  refine G_getf (pc := 1) fl_X7_16 dX7_setPatience_1 pg_200 rfl ?_
  refine G_istore_ne (pc := 4) 1 (fun zw => [(1, .int (zI zw)), (0, .ref (ad (200, 0, 0, 0)))]) dX7_setPatience_4 rfl (by decide) (fun _ => rfl) (fun v4 e4 => ?_)
  refine G_aload_n (pc := 5) 0 1 dX7_setPatience_5 rfl rfl ?_
  refine G_iconst (pc := 6) dX7_setPatience_6 ?_
  refine G_aload_n (pc := 7) 0 1 dX7_setPatience_7 rfl rfl ?_
  refine G_bipush (pc := 8) dX7_setPatience_8 (by decide) ?_
  refine G_callV (pc := 10) gk_X7_94 dX7_setPatience_10 pg_200 rfl (c_X7_draw (n := 6) hV (by assumption) ⟨by omega, by omega⟩) rfl rfl (Nat.le_of_ble_eq_true rfl) ⟨⟨Nat.le_of_ble_eq_true rfl, Nat.le_of_ble_eq_true rfl⟩, Nat.le_of_ble_eq_true rfl, Nat.le_of_ble_eq_true rfl⟩ (fun vx adx Mx hpo => ?_)
  obtain ⟨r10, hr10, rfl, hadx, rfl⟩ := hpo
  rw [hadx]
  show G Γ _ _ _ _ _ _ (0) (0) 13 [(1, .int (zI v4)), (0, .ref (ad (200, 0, 0, 0)))] [.int (zI r10), .int (zI 1), .ref (ad (200, 0, 0, 0))]
  refine G_nameV (fun V1_10 hV1_10 => ?_)
  have hVV1_10 : zWV Q V1_10 := by rw [hV1_10]; exact hV.s200_2 ⟨by omega, by omega⟩
  have hdV1_10 : V1_10 (200, 0, 0, 0) 2 = V (200, 0, 0, 0) 2 + 1 := by rw [hV1_10, zst_s]
  have hfV1_10 : ∀ k f, k ≠ (200, 0, 0, 0) → V1_10 k f = V k f := fun k f hk => by rw [hV1_10, zst_k _ _ _ _ hk]
  have hJV1_10 : zJ Q V1_10 := by rw [hV1_10]; exact zJ_dr hJ ⟨by omega, by omega⟩
  have hXV1_10 : X = mm (z_d Γ) ad Q V1_10 z00 := by rw [hV1_10, mm_st (by decide)]; exact hX
  refine G_iadd (pc := 13) dX7_setPatience_13 ?_
  refine G_putf (pc := 14) fl_X7_16 fp_X7_4 dX7_setPatience_14 pg_200 (Nat.le_of_ble_eq_true rfl) rfl rfl pp_200_4 ?_
  refine G_nameV (fun V2_14 hV2_14 => ?_)
  have hVV2_14 : zWV Q V2_14 := by rw [hV2_14]; exact hVV1_10.s0 ⟨by omega, by omega⟩ ⟨fun q => by omega, fun _ => by omega, fun q => by omega⟩ (fun q => by omega) (fun q => by omega)
  have hd2 : V2_14 (200, 0, 0, 0) 2 = V1_10 (200, 0, 0, 0) 2 := by rw [hV2_14, zst_k _ _ _ _ (by decide)]
  refine G_aload_n (pc := 17) 0 1 dX7_setPatience_17 rfl rfl ?_
  refine G_iconst (pc := 18) dX7_setPatience_18 ?_
  refine G_aload_n (pc := 19) 0 1 dX7_setPatience_19 rfl rfl ?_
  refine G_bipush (pc := 20) dX7_setPatience_20 (by decide) ?_
  refine G_callV (pc := 22) gk_X7_94 dX7_setPatience_22 pg_200 rfl (c_X7_draw (n := 12) hVV2_14 (by assumption) ⟨by omega, by omega⟩) rfl rfl (Nat.le_of_ble_eq_true rfl) ⟨⟨Nat.le_of_ble_eq_true rfl, Nat.le_of_ble_eq_true rfl⟩, Nat.le_of_ble_eq_true rfl, Nat.le_of_ble_eq_true rfl⟩ (fun vx adx Mx hpo => ?_)
  obtain ⟨r22, hr22, rfl, hadx, rfl⟩ := hpo
  rw [hadx]
  show G Γ _ _ _ _ _ _ (0) (0) 25 [(1, .int (zI v4)), (0, .ref (ad (200, 0, 0, 0)))] [.int (zI r22), .int (zI 1), .ref (ad (200, 0, 0, 0))]
  refine G_nameV (fun V3_22 hV3_22 => ?_)
  have hVV3_22 : zWV Q V3_22 := by rw [hV3_22]; exact hVV2_14.s200_2 ⟨by omega, by omega⟩
  have hdV3_22 : V3_22 (200, 0, 0, 0) 2 = V2_14 (200, 0, 0, 0) 2 + 1 := by rw [hV3_22, zst_s]
  have hfV3_22 : ∀ k f, k ≠ (200, 0, 0, 0) → V3_22 k f = V2_14 k f := fun k f hk => by rw [hV3_22, zst_k _ _ _ _ hk]
  refine G_iadd (pc := 25) dX7_setPatience_25 ?_
  refine G_putf (pc := 26) fl_X7_20 fp_X7_5 dX7_setPatience_26 pg_200 (Nat.le_of_ble_eq_true rfl) rfl rfl pp_200_5 ?_
  refine G_nameV (fun V4_26 hV4_26 => ?_)
  have hVV4_26 : zWV Q V4_26 := by rw [hV4_26]; exact hVV3_22.s0 ⟨by omega, by omega⟩ ⟨fun q => by omega, fun q => by omega, fun _ => by omega⟩ (fun q => by omega) (fun q => by omega)
  refine G_aload_n (pc := 29) 0 1 dX7_setPatience_29 rfl rfl ?_
  refine G_getf (pc := 30) fl_X7_10 dX7_setPatience_30 pg_200 rfl ?_
  refine G_aload_n (pc := 33) 0 1 dX7_setPatience_33 rfl rfl ?_
  refine G_getf (pc := 34) fl_X7_16 dX7_setPatience_34 pg_200 rfl ?_
  refine G_aload_n (pc := 37) 0 1 dX7_setPatience_37 rfl rfl ?_
  refine G_getf (pc := 38) fl_X7_20 dX7_setPatience_38 pg_200 rfl ?_
  obtain ⟨W, hW, hJW, hXW, hdW, h4W, h6W, h1W, h7W⟩ : ∃ W, V4_26 = zst (zst W (0, 0, 0, 0) 7 (1 + r10)) (0, 0, 0, 0) 8 (1 + r22) ∧ zJ Q W ∧ X = mm (z_d Γ) ad Q W z00 ∧ W (200, 0, 0, 0) 2 = V (200, 0, 0, 0) 2 + 2 ∧ W (0, 0, 0, 0) 4 = V (0, 0, 0, 0) 4 ∧ W (0, 0, 0, 0) 6 = V (0, 0, 0, 0) 6 ∧ W (1, 0, 0, 0) 1 = V (1, 0, 0, 0) 1 ∧ W (0, 0, 0, 0) 7 = V (0, 0, 0, 0) 7 := by
    refine ⟨zst V1_10 (200, 0, 0, 0) 2 (V1_10 (200, 0, 0, 0) 2 + 1), ?_, zJ_dr hJV1_10 ⟨by omega, by omega⟩, by rw [mm_st (by decide)]; exact hXV1_10, by rw [zst_s]; omega, ?_, ?_, ?_, ?_⟩
    · rw [hV4_26, hV3_22, hV2_14, zst_k _ _ _ _ (show ((200, 0, 0, 0) : zK) ≠ (0, 0, 0, 0) by decide), zst_cm (V := V1_10) (k := (0, 0, 0, 0)) (k' := (200, 0, 0, 0)) (by decide)]
    · rw [zst_k _ _ _ _ (by decide)]; exact hfV1_10 _ _ (by decide)
    · rw [zst_k _ _ _ _ (by decide)]; exact hfV1_10 _ _ (by decide)
    · rw [zst_k _ _ _ _ (by decide)]; exact hfV1_10 _ _ (by decide)
    · rw [zst_k _ _ _ _ (by decide)]; exact hfV1_10 _ _ (by decide)
  have hVW := hJW.wv
  have hx : V4_26 (0, 0, 0, 0) 7 = 1 + r10 ∧ V4_26 (0, 0, 0, 0) 8 = 1 + r22 := by rw [hW]; exact ⟨by rw [zst_o (by decide), zst_s], zst_s _ _ _ _⟩
  have hJ4 : zJ Q V4_26 := by rw [hW]; exact zJ_pat hJW ⟨by omega, by omega⟩ ⟨by omega, by omega⟩
  rw [hXW, pm_mm]
  refine G_callV (pc := 41) gk_X7_182 dX7_setPatience_41 mg_0 rfl (c_X6_setPatience (x := (V4_26 (0, 0, 0, 0) 7)) (y := (V4_26 (0, 0, 0, 0) 8)) hP hJW.wv.W (by omega) (by omega)) rfl rfl (Nat.le_of_ble_eq_true rfl) ⟨⟨Nat.le_of_ble_eq_true rfl, Nat.le_of_ble_eq_true rfl⟩, Nat.le_of_ble_eq_true rfl, Nat.le_of_ble_eq_true rfl⟩ (fun vx adx Mx hpo => ?_)
  obtain ⟨rfl, hadx, rfl⟩ := hpo
  rw [hadx]
  show G Γ _ _ _ _ _ _ (0) (0) 44 [(1, .int (zI v4)), (0, .ref (ad (200, 0, 0, 0)))] [.int (zI (W (0, 0, 0, 0) 7))]
  rw [← pm_mm]
  refine G_iload_n (pc := 44) 1 0 dX7_setPatience_44 rfl rfl ?_
  refine G_icmp_ne (pc := 45) 52 dX7_setPatience_45 (by decide) (by first | exact zWV.R (by assumption) _ _ | exact ⟨by omega, by omega⟩ | assumption | (subst_vars; first | exact zWV.R (by assumption) _ _ | exact ⟨by omega, by omega⟩)) (by first | exact zWV.R (by assumption) _ _ | exact ⟨by omega, by omega⟩ | assumption | (subst_vars; first | exact zWV.R (by assumption) _ _ | exact ⟨by omega, by omega⟩)) (fun c45 => ?_) (fun c45 => ?_)
  · exfalso
    omega
  · refine G_iconst (pc := 48) dX7_setPatience_48 ?_
    refine G_goto (pc := 49) 53 dX7_setPatience_49 (by decide) ?_
    exact G_zret (pc := 53) hF dX7_setPatience_53 ⟨Nat.le_of_ble_eq_true rfl, Nat.le_of_ble_eq_true rfl⟩ (by first | exact zb_ite | omega) ⟨rfl, Q, V4_26, ⟨rfl, rfl⟩, by rw [hx.1, hx.2, ← hW]; rfl, hJ4, by rw [hW, zst_k _ _ _ _ (by decide), zst_k _ _ _ _ (by decide)]; omega, by rw [hW, zst_o (by decide), zst_o (by decide)]; omega, by rw [hW, zst_o (by decide), zst_o (by decide)]; omega, by rw [hW, zst_k _ _ _ _ (by decide), zst_k _ _ _ _ (by decide)]; omega, by omega, by omega⟩
set_option maxHeartbeats 4000000 in
set_option maxRecDepth 100000 in
theorem c_X7_setKeep {l : Launch} {Δ : zDl} {ad : zK → Nat} {Q : zP} {V : zS} {X : zMem}  (hJ : zJ Q V) (hX : X = mm Δ ad Q V z00) (hL : Δ.2.2.2.2.1 ≤ 3072) (hD : V (200, 0, 0, 0) 2 ≤ 930000) (h4 : V (0, 0, 0, 0) 4 ≤ 190) (h0 : 1 ≤ Q 0 0 0) : zMn l Δ yX7_setKeep cX7_setKeep 3 (some .boolean) 10 0 0 [.ref (ad (200, 0, 0, 0))] ad (pm Δ ad Q V X) (zAct Δ ad Q V 1000) := by
  refine zMn_of (by decide) (Nat.le_of_ble_eq_true rfl) (fun Γ hl hΔ hF => ?_)
  subst hl hΔ
  show G Γ _ _ _ RX7 _ _ _ _ _ [(0, .ref (ad (200, 0, 0, 0)))] []
  have hP := hJ.wp
  have hV := hJ.wv
  have hq := hP.n
  have hdw := hV.dw
  refine G_aload_n (pc := 0) 0 0 dX7_setKeep_0 rfl rfl ?_
  refine G_aload_n (pc := 1) 0 0 dX7_setKeep_1 rfl rfl ?_
  refine G_getf (pc := 2) fl_X7_25 dX7_setKeep_2 pg_200 rfl ?_
  refine G_alenV (pc := 5) (t := 7) (Q 0 0 0) rfl dX7_setKeep_5 pg_201 (by omega) ?_
  refine G_callV (pc := 6) gk_X7_94 dX7_setKeep_6 pg_200 rfl (c_X7_draw (n := (Q 0 0 0)) hV (by assumption) ⟨by omega, by omega⟩) rfl rfl (Nat.le_of_ble_eq_true rfl) ⟨⟨Nat.le_of_ble_eq_true rfl, Nat.le_of_ble_eq_true rfl⟩, Nat.le_of_ble_eq_true rfl, Nat.le_of_ble_eq_true rfl⟩ (fun vx adx Mx hpo => ?_)
  obtain ⟨r6, hr6, rfl, hadx, rfl⟩ := hpo
  rw [hadx]
  show G Γ _ _ _ _ _ _ (0) (0) 9 [(0, .ref (ad (200, 0, 0, 0)))] [.int (zI r6)]
  refine G_nameV (fun V1_6 hV1_6 => ?_)
  have hVV1_6 : zWV Q V1_6 := by rw [hV1_6]; exact hV.s200_2 ⟨by omega, by omega⟩
  have hdV1_6 : V1_6 (200, 0, 0, 0) 2 = V (200, 0, 0, 0) 2 + 1 := by rw [hV1_6, zst_s]
  have hfV1_6 : ∀ k f, k ≠ (200, 0, 0, 0) → V1_6 k f = V k f := fun k f hk => by rw [hV1_6, zst_k _ _ _ _ hk]
  have hJV1_6 : zJ Q V1_6 := by rw [hV1_6]; exact zJ_dr hJ ⟨by omega, by omega⟩
  have hXV1_6 : X = mm (z_d Γ) ad Q V1_6 z00 := by rw [hV1_6, mm_st (by decide)]; exact hX
  refine G_istore_ne (pc := 9) 1 (fun zw => [(1, .int (zI zw)), (0, .ref (ad (200, 0, 0, 0)))]) dX7_setKeep_9 rfl (by decide) (fun _ => rfl) (fun v9 e9 => ?_)
  refine G_aload_n (pc := 10) 0 1 dX7_setKeep_10 rfl rfl ?_
  refine G_getf (pc := 11) fl_X7_33 dX7_setKeep_11 pg_200 rfl ?_
  refine G_iload_n (pc := 14) 1 0 dX7_setKeep_14 rfl rfl ?_
  refine G_ialdV (pc := 15) (V1_6 (8, v9, 0, 0) 3) dX7_setKeep_15 pg_206 ⟨by omega, by omega, by omega, by omega⟩ rfl ?_
  refine G_istore_ne (pc := 16) 2 (fun zw => [(2, .int (zI zw)), (1, .int (zI v9)), (0, .ref (ad (200, 0, 0, 0)))]) dX7_setKeep_16 rfl (by decide) (fun _ => rfl) (fun v16 e16 => ?_)
  refine G_aload_n (pc := 17) 0 2 dX7_setKeep_17 rfl rfl ?_
  refine G_getf (pc := 18) fl_X7_33 dX7_setKeep_18 pg_200 rfl ?_
  refine G_iload_n (pc := 21) 1 1 dX7_setKeep_21 rfl rfl ?_
  refine G_aload_n (pc := 22) 0 2 dX7_setKeep_22 rfl rfl ?_
  refine G_iconst (pc := 23) dX7_setKeep_23 ?_
  refine G_callV (pc := 24) gk_X7_94 dX7_setKeep_24 pg_200 rfl (c_X7_draw (n := 2) hVV1_6 (by assumption) ⟨by omega, by omega⟩) rfl rfl (Nat.le_of_ble_eq_true rfl) ⟨⟨Nat.le_of_ble_eq_true rfl, Nat.le_of_ble_eq_true rfl⟩, Nat.le_of_ble_eq_true rfl, Nat.le_of_ble_eq_true rfl⟩ (fun vx adx Mx hpo => ?_)
  obtain ⟨r24, hr24, rfl, hadx, rfl⟩ := hpo
  rw [hadx]
  show G Γ _ _ _ _ _ _ (0) (0) 27 [(2, .int (zI v16)), (1, .int (zI v9)), (0, .ref (ad (200, 0, 0, 0)))] [.int (zI r24), .int (zI v9), .ref (ad (206, 0, 0, 0))]
  refine G_nameV (fun V2_24 hV2_24 => ?_)
  have hVV2_24 : zWV Q V2_24 := by rw [hV2_24]; exact hVV1_6.s200_2 ⟨by omega, by omega⟩
  have hdV2_24 : V2_24 (200, 0, 0, 0) 2 = V1_6 (200, 0, 0, 0) 2 + 1 := by rw [hV2_24, zst_s]
  have hfV2_24 : ∀ k f, k ≠ (200, 0, 0, 0) → V2_24 k f = V1_6 k f := fun k f hk => by rw [hV2_24, zst_k _ _ _ _ hk]
  have hJV2_24 : zJ Q V2_24 := by rw [hV2_24]; exact zJ_dr hJV1_6 ⟨by omega, by omega⟩
  have hXV2_24 : X = mm (z_d Γ) ad Q V2_24 z00 := by rw [hV2_24, mm_st (by decide)]; exact hXV1_6
  refine G_if_ne (pc := 27) 34 dX7_setKeep_27 (by decide) (by first | exact zWV.R (by assumption) _ _ | exact ⟨by omega, by omega⟩ | assumption | (subst_vars; first | exact zWV.R (by assumption) _ _ | exact ⟨by omega, by omega⟩)) (fun c27 => ?_) (fun c27 => ?_)
  · refine G_iconst (pc := 34) dX7_setKeep_34 ?_
    refine G_aload_n (pc := 35) 0 2 dX7_setKeep_35 rfl rfl ?_
    refine G_bipush (pc := 36) dX7_setKeep_36 (by decide) ?_
    refine G_callV (pc := 38) gk_X7_94 dX7_setKeep_38 pg_200 rfl (c_X7_draw (n := 30) hVV2_24 (by assumption) ⟨by omega, by omega⟩) rfl rfl (Nat.le_of_ble_eq_true rfl) ⟨⟨Nat.le_of_ble_eq_true rfl, Nat.le_of_ble_eq_true rfl⟩, Nat.le_of_ble_eq_true rfl, Nat.le_of_ble_eq_true rfl⟩ (fun vx adx Mx hpo => ?_)
    obtain ⟨r38, hr38, rfl, hadx, rfl⟩ := hpo
    rw [hadx]
    show G Γ _ _ _ _ _ _ (0) (0) 41 [(2, .int (zI v16)), (1, .int (zI v9)), (0, .ref (ad (200, 0, 0, 0)))] [.int (zI r38), .int (zI 1), .int (zI v9), .ref (ad (206, 0, 0, 0))]
    refine G_nameV (fun V3_38 hV3_38 => ?_)
    have hVV3_38 : zWV Q V3_38 := by rw [hV3_38]; exact hVV2_24.s200_2 ⟨by omega, by omega⟩
    have hdV3_38 : V3_38 (200, 0, 0, 0) 2 = V2_24 (200, 0, 0, 0) 2 + 1 := by rw [hV3_38, zst_s]
    have hfV3_38 : ∀ k f, k ≠ (200, 0, 0, 0) → V3_38 k f = V2_24 k f := fun k f hk => by rw [hV3_38, zst_k _ _ _ _ hk]
    have hJV3_38 : zJ Q V3_38 := by rw [hV3_38]; exact zJ_dr hJV2_24 ⟨by omega, by omega⟩
    have hXV3_38 : X = mm (z_d Γ) ad Q V3_38 z00 := by rw [hV3_38, mm_st (by decide)]; exact hXV2_24
    refine G_iadd (pc := 41) dX7_setKeep_41 ?_
    refine G_iast (pc := 42) dX7_setKeep_42 pg_206 ⟨by omega, by omega, by omega, by omega⟩ pp_206 ?_
    refine G_nameV (fun V4_42 hV4_42 => ?_)
    have hVV4_42 : zWV Q V4_42 := by rw [hV4_42]; exact hVV3_38.s8_3 (by first | assumption | omega)
    have hkk : 0 ≤ V4_42 (8, v9, 0, 0) 3 ∧ V4_42 (8, v9, 0, 0) 3 ≤ 30 := by rw [hV4_42, zst_s]; omega
    obtain ⟨W, hW, hJW, hXW, hdW, h4W, h6W, h1W, h3W⟩ : ∃ W, V4_42 = zst W (8, v9, 0, 0) 3 (V4_42 (8, v9, 0, 0) 3) ∧ zJ Q W ∧ X = mm (z_d Γ) ad Q W z00 ∧ W (200, 0, 0, 0) 2 ≤ V (200, 0, 0, 0) 2 + 3 ∧ W (0, 0, 0, 0) 4 = V (0, 0, 0, 0) 4 ∧ W (0, 0, 0, 0) 6 = V (0, 0, 0, 0) 6 ∧ W (1, 0, 0, 0) 1 = V (1, 0, 0, 0) 1 ∧ W (8, v9, 0, 0) 3 = V1_6 (8, v9, 0, 0) 3 := by
      refine ⟨V3_38, by rw [hV4_42, zst_s], hJV3_38, hXV3_38, ?_, ?_, ?_, ?_, ?_⟩
      · omega
      · rw [hfV3_38 _ _ (by decide)]; first | exact hfV1_6 _ _ (by decide) | (rw [hfV2_24 _ _ (by decide)]; exact hfV1_6 _ _ (by decide))
      · rw [hfV3_38 _ _ (by decide)]; first | exact hfV1_6 _ _ (by decide) | (rw [hfV2_24 _ _ (by decide)]; exact hfV1_6 _ _ (by decide))
      · rw [hfV3_38 _ _ (by decide)]; first | exact hfV1_6 _ _ (by decide) | (rw [hfV2_24 _ _ (by decide)]; exact hfV1_6 _ _ (by decide))
      · first | exact hfV3_38 _ _ (by simp) | exact (hfV3_38 _ _ (by simp)).trans (hfV2_24 _ _ (by simp))
    have hVW := hJW.wv
    have hJ4 : zJ Q V4_42 := by rw [hW]; exact zJ_keep hJW (by omega) (by omega)
    refine G_aload_n (pc := 43) 0 2 dX7_setKeep_43 rfl rfl ?_
    refine G_getf (pc := 44) fl_X7_10 dX7_setKeep_44 pg_200 rfl ?_
    refine G_iload_n (pc := 47) 1 1 dX7_setKeep_47 rfl rfl ?_
    refine G_aload_n (pc := 48) 0 2 dX7_setKeep_48 rfl rfl ?_
    refine G_getf (pc := 49) fl_X7_33 dX7_setKeep_49 pg_200 rfl ?_
    refine G_iload_n (pc := 52) 1 1 dX7_setKeep_52 rfl rfl ?_
    refine G_ialdV (pc := 53) (V4_42 (8, v9, 0, 0) 3) dX7_setKeep_53 pg_206 ⟨by omega, by omega, by omega, by omega⟩ rfl ?_
    rw [hXW, pm_mm]
    refine G_callV (pc := 54) gk_X7_165 dX7_setKeep_54 mg_0 rfl (c_X6_setKeep (t := v9) (k := (V4_42 (8, v9, 0, 0) 3)) hP (by omega) hJW.wv.W (by omega)) rfl rfl (Nat.le_of_ble_eq_true rfl) ⟨⟨Nat.le_of_ble_eq_true rfl, Nat.le_of_ble_eq_true rfl⟩, Nat.le_of_ble_eq_true rfl, Nat.le_of_ble_eq_true rfl⟩ (fun vx adx Mx hpo => ?_)
    obtain ⟨rfl, hadx, rfl⟩ := hpo
    rw [hadx]
    show G Γ _ _ _ _ _ _ (0) (0) 57 [(2, .int (zI v16)), (1, .int (zI v9)), (0, .ref (ad (200, 0, 0, 0)))] [.int (zI (W (8, v9, 0, 0) 3))]
    rw [← pm_mm]
    refine G_iload_n (pc := 57) 2 0 dX7_setKeep_57 rfl rfl ?_
    refine G_icmp_ne (pc := 58) 65 dX7_setKeep_58 (by decide) (by first | exact zWV.R (by assumption) _ _ | exact ⟨by omega, by omega⟩ | assumption | (subst_vars; first | exact zWV.R (by assumption) _ _ | exact ⟨by omega, by omega⟩)) (by first | exact zWV.R (by assumption) _ _ | exact ⟨by omega, by omega⟩ | assumption | (subst_vars; first | exact zWV.R (by assumption) _ _ | exact ⟨by omega, by omega⟩)) (fun c58 => ?_) (fun c58 => ?_)
    · exfalso
      omega
    · refine G_iconst (pc := 61) dX7_setKeep_61 ?_
      refine G_goto (pc := 62) 66 dX7_setKeep_62 (by decide) ?_
      exact G_zret (pc := 66) hF dX7_setKeep_66 ⟨Nat.le_of_ble_eq_true rfl, Nat.le_of_ble_eq_true rfl⟩ (by first | exact zb_ite | omega) ⟨rfl, Q, V4_42, ⟨rfl, rfl⟩, by rw [← hW]; rfl, hJ4, by rw [hW, zst_k _ _ _ _ (by simp)]; omega, by rw [hW, zst_k _ _ _ _ (by simp)]; omega, by rw [hW, zst_k _ _ _ _ (by simp)]; omega, by rw [hW, zst_k _ _ _ _ (by simp)]; omega, by omega, by omega⟩
  · refine G_iconst (pc := 30) dX7_setKeep_30 ?_
    refine G_goto (pc := 31) 42 dX7_setKeep_31 (by decide) ?_
    refine G_iast (pc := 42) dX7_setKeep_42 pg_206 ⟨by omega, by omega, by omega, by omega⟩ pp_206 ?_
    refine G_nameV (fun V5_42 hV5_42 => ?_)
    have hVV5_42 : zWV Q V5_42 := by rw [hV5_42]; exact hVV2_24.s8_3 (by first | assumption | omega)
    have hkk : 0 ≤ V5_42 (8, v9, 0, 0) 3 ∧ V5_42 (8, v9, 0, 0) 3 ≤ 30 := by rw [hV5_42, zst_s]; omega
    obtain ⟨W, hW, hJW, hXW, hdW, h4W, h6W, h1W, h3W⟩ : ∃ W, V5_42 = zst W (8, v9, 0, 0) 3 (V5_42 (8, v9, 0, 0) 3) ∧ zJ Q W ∧ X = mm (z_d Γ) ad Q W z00 ∧ W (200, 0, 0, 0) 2 ≤ V (200, 0, 0, 0) 2 + 3 ∧ W (0, 0, 0, 0) 4 = V (0, 0, 0, 0) 4 ∧ W (0, 0, 0, 0) 6 = V (0, 0, 0, 0) 6 ∧ W (1, 0, 0, 0) 1 = V (1, 0, 0, 0) 1 ∧ W (8, v9, 0, 0) 3 = V1_6 (8, v9, 0, 0) 3 := by
      refine ⟨V2_24, by rw [hV5_42, zst_s], hJV2_24, hXV2_24, ?_, ?_, ?_, ?_, ?_⟩
      · omega
      · rw [hfV2_24 _ _ (by decide)]; first | exact hfV1_6 _ _ (by decide) | (rw [hfV2_24 _ _ (by decide)]; exact hfV1_6 _ _ (by decide))
      · rw [hfV2_24 _ _ (by decide)]; first | exact hfV1_6 _ _ (by decide) | (rw [hfV2_24 _ _ (by decide)]; exact hfV1_6 _ _ (by decide))
      · rw [hfV2_24 _ _ (by decide)]; first | exact hfV1_6 _ _ (by decide) | (rw [hfV2_24 _ _ (by decide)]; exact hfV1_6 _ _ (by decide))
      · first | exact hfV2_24 _ _ (by simp) | exact (hfV2_24 _ _ (by simp)).trans (hfV2_24 _ _ (by simp))
    have hVW := hJW.wv
    have hJ4 : zJ Q V5_42 := by rw [hW]; exact zJ_keep hJW (by omega) (by omega)
    refine G_aload_n (pc := 43) 0 2 dX7_setKeep_43 rfl rfl ?_
    refine G_getf (pc := 44) fl_X7_10 dX7_setKeep_44 pg_200 rfl ?_
    refine G_iload_n (pc := 47) 1 1 dX7_setKeep_47 rfl rfl ?_
    refine G_aload_n (pc := 48) 0 2 dX7_setKeep_48 rfl rfl ?_
    refine G_getf (pc := 49) fl_X7_33 dX7_setKeep_49 pg_200 rfl ?_
    refine G_iload_n (pc := 52) 1 1 dX7_setKeep_52 rfl rfl ?_
    refine G_ialdV (pc := 53) (V5_42 (8, v9, 0, 0) 3) dX7_setKeep_53 pg_206 ⟨by omega, by omega, by omega, by omega⟩ rfl ?_
    rw [hXW, pm_mm]
    refine G_callV (pc := 54) gk_X7_165 dX7_setKeep_54 mg_0 rfl (c_X6_setKeep (t := v9) (k := (V5_42 (8, v9, 0, 0) 3)) hP (by omega) hJW.wv.W (by omega)) rfl rfl (Nat.le_of_ble_eq_true rfl) ⟨⟨Nat.le_of_ble_eq_true rfl, Nat.le_of_ble_eq_true rfl⟩, Nat.le_of_ble_eq_true rfl, Nat.le_of_ble_eq_true rfl⟩ (fun vx adx Mx hpo => ?_)
    obtain ⟨rfl, hadx, rfl⟩ := hpo
    rw [hadx]
    show G Γ _ _ _ _ _ _ (0) (0) 57 [(2, .int (zI v16)), (1, .int (zI v9)), (0, .ref (ad (200, 0, 0, 0)))] [.int (zI (W (8, v9, 0, 0) 3))]
    rw [← pm_mm]
    refine G_iload_n (pc := 57) 2 0 dX7_setKeep_57 rfl rfl ?_
    refine G_icmp_ne (pc := 58) 65 dX7_setKeep_58 (by decide) (by first | exact zWV.R (by assumption) _ _ | exact ⟨by omega, by omega⟩ | assumption | (subst_vars; first | exact zWV.R (by assumption) _ _ | exact ⟨by omega, by omega⟩)) (by first | exact zWV.R (by assumption) _ _ | exact ⟨by omega, by omega⟩ | assumption | (subst_vars; first | exact zWV.R (by assumption) _ _ | exact ⟨by omega, by omega⟩)) (fun c58 => ?_) (fun c58 => ?_)
    · exfalso
      omega
    · refine G_iconst (pc := 61) dX7_setKeep_61 ?_
      refine G_goto (pc := 62) 66 dX7_setKeep_62 (by decide) ?_
      exact G_zret (pc := 66) hF dX7_setKeep_66 ⟨Nat.le_of_ble_eq_true rfl, Nat.le_of_ble_eq_true rfl⟩ (by first | exact zb_ite | omega) ⟨rfl, Q, V5_42, ⟨rfl, rfl⟩, by rw [← hW]; rfl, hJ4, by rw [hW, zst_k _ _ _ _ (by simp)]; omega, by rw [hW, zst_k _ _ _ _ (by simp)]; omega, by rw [hW, zst_k _ _ _ _ (by simp)]; omega, by rw [hW, zst_k _ _ _ _ (by simp)]; omega, by omega, by omega⟩
