set_option maxHeartbeats 4000000 in
set_option maxRecDepth 100000 in
theorem c_X6_topicAt {l : Launch} {Δ : zDl} {ad : zK → Nat} {P : zP} {S : zS} {X : zMem} {t : Int} (hP : zWP P) (ht : 0 ≤ t ∧ t < P 0 0 0) : zMn l Δ yX6_topicAt cX6_topicAt 2 (some (.object "TailraceBroker$Topic")) 5 0 0 [.ref (ad (0, 0, 0, 0)), .int (zI t)] ad (mm Δ ad P S X) (zD (some (.ref (ad (8, t, 0, 0)))) ad (mm Δ ad P S X)) := by
  refine zMn_of (by decide) (Nat.le_of_ble_eq_true rfl) (fun Γ hl hΔ hF => ?_)
  subst hl hΔ
  show G Γ _ _ _ RX6 _ _ _ _ _ [(0, .ref (ad (0, 0, 0, 0))), (1, .int (zI t))] []
  have hN := hP.n
  refine G_iload_n (pc := 0) 1 1 dX6_topicAt_0 rfl rfl ?_
  refine G_iconst (pc := 1) dX6_topicAt_1 ?_
  refine G_aload_n (pc := 2) 0 0 dX6_topicAt_2 rfl rfl ?_
  refine G_getf (pc := 3) fl_X6_10 dX6_topicAt_3 mg_0 rfl ?_
  refine G_callVd (pc := 6) gk_X6_57 dX6_topicAt_6 mg_4 rfl (c_AL_size_4 ) rfl rfl (Nat.le_of_ble_eq_true rfl) ⟨⟨Nat.le_of_ble_eq_true rfl, Nat.le_of_ble_eq_true rfl⟩, Nat.le_of_ble_eq_true rfl, Nat.le_of_ble_eq_true rfl⟩ ?_
  refine G_iconst (pc := 9) dX6_topicAt_9 ?_
  refine G_isub (pc := 10) dX6_topicAt_10 ?_
  refine G_callSd (pc := 11) gk_X6_46 dX6_topicAt_11 (c_X6_isWithin (by first | assumption | omega | exact ⟨by omega, by omega⟩ | exact hS _ _ | exact hT _ _) (by first | assumption | omega | exact ⟨by omega, by omega⟩ | exact hS _ _ | exact hT _ _) (by first | assumption | omega | exact ⟨by omega, by omega⟩ | exact hS _ _ | exact hT _ _)) rfl rfl (Nat.le_of_ble_eq_true rfl) ⟨⟨Nat.le_of_ble_eq_true rfl, Nat.le_of_ble_eq_true rfl⟩, Nat.le_of_ble_eq_true rfl, Nat.le_of_ble_eq_true rfl⟩ ?_
  refine G_if_ne_b (pc := 14) 28 dX6_topicAt_14 (by decide) (fun c14 => ?_) (fun c14 => ?_)
  · refine G_aload_n (pc := 28) 0 0 dX6_topicAt_28 rfl rfl ?_
    refine G_getf (pc := 29) fl_X6_10 dX6_topicAt_29 mg_0 rfl ?_
    refine G_iload_n (pc := 32) 1 1 dX6_topicAt_32 rfl rfl ?_
    refine G_callVd (pc := 33) gk_X6_111 dX6_topicAt_33 mg_4 rfl (c_AL_get_4 (by first | assumption | omega | exact ⟨by omega, by omega⟩ | exact hS _ _ | exact hT _ _) (by first | assumption | omega | exact ⟨by omega, by omega⟩ | exact hS _ _ | exact hT _ _)) rfl rfl (Nat.le_of_ble_eq_true rfl) ⟨⟨Nat.le_of_ble_eq_true rfl, Nat.le_of_ble_eq_true rfl⟩, Nat.le_of_ble_eq_true rfl, Nat.le_of_ble_eq_true rfl⟩ ?_
    refine G_cast (pc := 36) ct_X6_66 dX6_topicAt_36 (mg_8 (by first | assumption | omega | exact ⟨by omega, by omega⟩ | exact hS _ _ | exact hT _ _)) ?_
    exact G_aret (pc := 39) hF (Or.inl ⟨_, rfl⟩) dX6_topicAt_39 ⟨Nat.le_of_ble_eq_true rfl, Nat.le_of_ble_eq_true rfl⟩ ⟨rfl, rfl, rfl⟩
  · exfalso
    omega
set_option maxHeartbeats 4000000 in
set_option maxRecDepth 100000 in
theorem c_X6_topicAt_x {l : Launch} {Δ : zDl} {ad : zK → Nat} {P : zP} {S : zS} {X : zMem} {t : Int} (hP : zWP P) (hr : zR t) (hn : ¬ (0 ≤ t ∧ t < P 0 0 0)) (hst : l.stackTraces = false) : zMx l Δ yX6_topicAt cX6_topicAt 2 (some (.object "TailraceBroker$Topic")) 6 1 6 [.ref (ad (0, 0, 0, 0)), .int (zI t)] ad (mm Δ ad P S X) zF0 (zE "java/lang/IndexOutOfBoundsException" ad (mm Δ ad P S X)) := by
  refine zMx_of hst (by decide) (Nat.le_of_ble_eq_true rfl) (fun Γ hl hΔ hF hX => ?_)
  subst hl hΔ
  show G Γ _ _ _ RX6 _ _ _ _ _ [(0, .ref (ad (0, 0, 0, 0))), (1, .int (zI t))] []
  have hN := hP.n
  refine G_iload_n (pc := 0) 1 1 dX6_topicAt_0 rfl rfl ?_
  refine G_iconst (pc := 1) dX6_topicAt_1 ?_
  refine G_aload_n (pc := 2) 0 0 dX6_topicAt_2 rfl rfl ?_
  refine G_getf (pc := 3) fl_X6_10 dX6_topicAt_3 mg_0 rfl ?_
  refine G_callVd (pc := 6) gk_X6_57 dX6_topicAt_6 mg_4 rfl (c_AL_size_4 ) rfl rfl (Nat.le_of_ble_eq_true rfl) ⟨⟨Nat.le_of_ble_eq_true rfl, Nat.le_of_ble_eq_true rfl⟩, Nat.le_of_ble_eq_true rfl, Nat.le_of_ble_eq_true rfl⟩ ?_
  refine G_iconst (pc := 9) dX6_topicAt_9 ?_
  refine G_isub (pc := 10) dX6_topicAt_10 ?_
  refine G_callSd (pc := 11) gk_X6_46 dX6_topicAt_11 (c_X6_isWithin (by first | assumption | omega | exact ⟨by omega, by omega⟩ | exact hS _ _ | exact hT _ _) (by first | assumption | omega | exact ⟨by omega, by omega⟩ | exact hS _ _ | exact hT _ _) (by first | assumption | omega | exact ⟨by omega, by omega⟩ | exact hS _ _ | exact hT _ _)) rfl rfl (Nat.le_of_ble_eq_true rfl) ⟨⟨Nat.le_of_ble_eq_true rfl, Nat.le_of_ble_eq_true rfl⟩, Nat.le_of_ble_eq_true rfl, Nat.le_of_ble_eq_true rfl⟩ ?_
  refine G_if_ne_b (pc := 14) 28 dX6_topicAt_14 (by decide) (fun c14 => ?_) (fun c14 => ?_)
  · exfalso
    omega
  · exact G_throwW (text := "no such topic") hX tw_272 rfl (by decide) dX6_topicAt_17 dX6_topicAt_20 dX6_topicAt_21 dX6_topicAt_24 dX6_topicAt_27 ⟨⟨Nat.le_of_ble_eq_true rfl, Nat.le_of_ble_eq_true rfl⟩, Nat.le_of_ble_eq_true rfl, Nat.le_of_ble_eq_true rfl⟩ ⟨Nat.le_of_ble_eq_true rfl, Nat.le_of_ble_eq_true rfl⟩ ⟨rfl, rfl, rfl⟩
set_option maxHeartbeats 4000000 in
set_option maxRecDepth 100000 in
theorem c_X6_partitionAt {l : Launch} {Δ : zDl} {ad : zK → Nat} {P : zP} {S : zS} {X : zMem} {t p : Int} (hP : zWP P) (ht : 0 ≤ t ∧ t < P 0 0 0) (hp : 0 ≤ p ∧ p < P 1 t 0) : zMn l Δ yX6_partitionAt cX6_partitionAt 4 (some (.object "TailraceBroker$Partition")) 6 0 0 [.ref (ad (0, 0, 0, 0)), .int (zI t), .int (zI p)] ad (mm Δ ad P S X) (zD (some (.ref (ad (11, t, p, 0)))) ad (mm Δ ad P S X)) := by
  refine zMn_of (by decide) (Nat.le_of_ble_eq_true rfl) (fun Γ hl hΔ hF => ?_)
  subst hl hΔ
  show G Γ _ _ _ RX6 _ _ _ _ _ [(0, .ref (ad (0, 0, 0, 0))), (1, .int (zI t)), (2, .int (zI p))] []
  have hN := hP.n
  have hT := hP.t ht
  refine G_aload_n (pc := 0) 0 0 dX6_partitionAt_0 rfl rfl ?_
  refine G_iload_n (pc := 1) 1 1 dX6_partitionAt_1 rfl rfl ?_
  refine G_callVd (pc := 2) gk_X6_75 dX6_partitionAt_2 mg_0 rfl (c_X6_topicAt (by first | assumption | omega | exact ⟨by omega, by omega⟩ | exact hS _ _ | exact hT _ _) (by first | assumption | omega | exact ⟨by omega, by omega⟩ | exact hS _ _ | exact hT _ _)) rfl rfl (Nat.le_of_ble_eq_true rfl) ⟨⟨Nat.le_of_ble_eq_true rfl, Nat.le_of_ble_eq_true rfl⟩, Nat.le_of_ble_eq_true rfl, Nat.le_of_ble_eq_true rfl⟩ ?_
  refine G_astore_n (pc := 5) 3 [(3, .ref (ad (8, t, 0, 0))), (0, .ref (ad (0, 0, 0, 0))), (1, .int (zI t)), (2, .int (zI p))] dX6_partitionAt_5 rfl (by decide) rfl ?_
  refine G_iload_n (pc := 6) 2 3 dX6_partitionAt_6 rfl rfl ?_
  refine G_iconst (pc := 7) dX6_partitionAt_7 ?_
  refine G_aload_n (pc := 8) 3 0 dX6_partitionAt_8 rfl rfl ?_
  refine G_getf (pc := 9) fl_X6_304 dX6_partitionAt_9 (mg_8 (by first | assumption | omega | exact ⟨by omega, by omega⟩ | exact hS _ _ | exact hT _ _)) rfl ?_
  refine G_alen (pc := 12) (t := 2) rfl dX6_partitionAt_12 (mg_9 (by first | assumption | omega | exact ⟨by omega, by omega⟩ | exact hS _ _ | exact hT _ _)) ?_
  refine G_iconst (pc := 13) dX6_partitionAt_13 ?_
  refine G_isub (pc := 14) dX6_partitionAt_14 ?_
  refine G_callSd (pc := 15) gk_X6_46 dX6_partitionAt_15 (c_X6_isWithin (by first | assumption | omega | exact ⟨by omega, by omega⟩ | exact hS _ _ | exact hT _ _) (by first | assumption | omega | exact ⟨by omega, by omega⟩ | exact hS _ _ | exact hT _ _) (by first | assumption | omega | exact ⟨by omega, by omega⟩ | exact hS _ _ | exact hT _ _)) rfl rfl (Nat.le_of_ble_eq_true rfl) ⟨⟨Nat.le_of_ble_eq_true rfl, Nat.le_of_ble_eq_true rfl⟩, Nat.le_of_ble_eq_true rfl, Nat.le_of_ble_eq_true rfl⟩ ?_
  refine G_if_ne_b (pc := 18) 32 dX6_partitionAt_18 (by decide) (fun c18 => ?_) (fun c18 => ?_)
  · refine G_aload_n (pc := 32) 3 0 dX6_partitionAt_32 rfl rfl ?_
    refine G_getf (pc := 33) fl_X6_304 dX6_partitionAt_33 (mg_8 (by first | assumption | omega | exact ⟨by omega, by omega⟩ | exact hS _ _ | exact hT _ _)) rfl ?_
    refine G_iload_n (pc := 36) 2 3 dX6_partitionAt_36 rfl rfl ?_
    refine G_aald (pc := 37) (t := 2) rfl dX6_partitionAt_37 (mg_9 (by first | assumption | omega | exact ⟨by omega, by omega⟩ | exact hS _ _ | exact hT _ _)) ⟨by omega, by omega, by omega, by omega⟩ rfl ?_
    exact G_aret (pc := 38) hF (Or.inl ⟨_, rfl⟩) dX6_partitionAt_38 ⟨Nat.le_of_ble_eq_true rfl, Nat.le_of_ble_eq_true rfl⟩ ⟨rfl, rfl, rfl⟩
  · exfalso
    omega
set_option maxHeartbeats 4000000 in
set_option maxRecDepth 100000 in
theorem c_X6_partitionAt_xa {l : Launch} {Δ : zDl} {ad : zK → Nat} {P : zP} {S : zS} {X : zMem} {t p : Int} (hP : zWP P) (hr : zR t) (hn : ¬ (0 ≤ t ∧ t < P 0 0 0)) (hst : l.stackTraces = false) : zMx l Δ yX6_partitionAt cX6_partitionAt 4 (some (.object "TailraceBroker$Partition")) 7 1 6 [.ref (ad (0, 0, 0, 0)), .int (zI t), .int (zI p)] ad (mm Δ ad P S X) zF0 (zE "java/lang/IndexOutOfBoundsException" ad (mm Δ ad P S X)) := by
  refine zMx_of hst (by decide) (Nat.le_of_ble_eq_true rfl) (fun Γ hl hΔ hF hX => ?_)
  subst hl hΔ
  show G Γ _ _ _ RX6 _ _ _ _ _ [(0, .ref (ad (0, 0, 0, 0))), (1, .int (zI t)), (2, .int (zI p))] []
  refine G_aload_n (pc := 0) 0 0 dX6_partitionAt_0 rfl rfl ?_
  refine G_iload_n (pc := 1) 1 1 dX6_partitionAt_1 rfl rfl ?_
  exact G_callVt (pc := 2) gk_X6_75 dX6_partitionAt_2 mg_0 rfl (c_X6_topicAt_x (by first | assumption | omega | exact ⟨by omega, by omega⟩ | exact hS _ _ | exact hT _ _) (by first | assumption | omega | exact ⟨by omega, by omega⟩ | exact hS _ _ | exact hT _ _) (by first | assumption | omega | exact ⟨by omega, by omega⟩ | exact hS _ _ | exact hT _ _) hst) rfl rfl (Nat.le_of_ble_eq_true rfl) ⟨⟨Nat.le_of_ble_eq_true rfl, Nat.le_of_ble_eq_true rfl⟩, Nat.le_of_ble_eq_true rfl, Nat.le_of_ble_eq_true rfl⟩ hX ⟨Nat.le_of_ble_eq_true rfl, Nat.le_of_ble_eq_true rfl⟩ ⟨rfl, rfl, rfl⟩
set_option maxHeartbeats 4000000 in
set_option maxRecDepth 100000 in
theorem c_X6_partitionAt_xb {l : Launch} {Δ : zDl} {ad : zK → Nat} {P : zP} {S : zS} {X : zMem} {t p : Int} (hP : zWP P) (ht : 0 ≤ t ∧ t < P 0 0 0) (hr : zR p) (hn : ¬ (0 ≤ p ∧ p < P 1 t 0)) (hst : l.stackTraces = false) : zMx l Δ yX6_partitionAt cX6_partitionAt 4 (some (.object "TailraceBroker$Partition")) 7 1 6 [.ref (ad (0, 0, 0, 0)), .int (zI t), .int (zI p)] ad (mm Δ ad P S X) zF0 (zE "java/lang/IndexOutOfBoundsException" ad (mm Δ ad P S X)) := by
  refine zMx_of hst (by decide) (Nat.le_of_ble_eq_true rfl) (fun Γ hl hΔ hF hX => ?_)
  subst hl hΔ
  show G Γ _ _ _ RX6 _ _ _ _ _ [(0, .ref (ad (0, 0, 0, 0))), (1, .int (zI t)), (2, .int (zI p))] []
  have hN := hP.n
  have hT := hP.t ht
  refine G_aload_n (pc := 0) 0 0 dX6_partitionAt_0 rfl rfl ?_
  refine G_iload_n (pc := 1) 1 1 dX6_partitionAt_1 rfl rfl ?_
  refine G_callVd (pc := 2) gk_X6_75 dX6_partitionAt_2 mg_0 rfl (c_X6_topicAt (by first | assumption | omega | exact ⟨by omega, by omega⟩ | exact hS _ _ | exact hT _ _) (by first | assumption | omega | exact ⟨by omega, by omega⟩ | exact hS _ _ | exact hT _ _)) rfl rfl (Nat.le_of_ble_eq_true rfl) ⟨⟨Nat.le_of_ble_eq_true rfl, Nat.le_of_ble_eq_true rfl⟩, Nat.le_of_ble_eq_true rfl, Nat.le_of_ble_eq_true rfl⟩ ?_
  refine G_astore_n (pc := 5) 3 [(3, .ref (ad (8, t, 0, 0))), (0, .ref (ad (0, 0, 0, 0))), (1, .int (zI t)), (2, .int (zI p))] dX6_partitionAt_5 rfl (by decide) rfl ?_
  refine G_iload_n (pc := 6) 2 3 dX6_partitionAt_6 rfl rfl ?_
  refine G_iconst (pc := 7) dX6_partitionAt_7 ?_
  refine G_aload_n (pc := 8) 3 0 dX6_partitionAt_8 rfl rfl ?_
  refine G_getf (pc := 9) fl_X6_304 dX6_partitionAt_9 (mg_8 (by first | assumption | omega | exact ⟨by omega, by omega⟩ | exact hS _ _ | exact hT _ _)) rfl ?_
  refine G_alen (pc := 12) (t := 2) rfl dX6_partitionAt_12 (mg_9 (by first | assumption | omega | exact ⟨by omega, by omega⟩ | exact hS _ _ | exact hT _ _)) ?_
  refine G_iconst (pc := 13) dX6_partitionAt_13 ?_
  refine G_isub (pc := 14) dX6_partitionAt_14 ?_
  refine G_callSd (pc := 15) gk_X6_46 dX6_partitionAt_15 (c_X6_isWithin (by first | assumption | omega | exact ⟨by omega, by omega⟩ | exact hS _ _ | exact hT _ _) (by first | assumption | omega | exact ⟨by omega, by omega⟩ | exact hS _ _ | exact hT _ _) (by first | assumption | omega | exact ⟨by omega, by omega⟩ | exact hS _ _ | exact hT _ _)) rfl rfl (Nat.le_of_ble_eq_true rfl) ⟨⟨Nat.le_of_ble_eq_true rfl, Nat.le_of_ble_eq_true rfl⟩, Nat.le_of_ble_eq_true rfl, Nat.le_of_ble_eq_true rfl⟩ ?_
  refine G_if_ne_b (pc := 18) 32 dX6_partitionAt_18 (by decide) (fun c18 => ?_) (fun c18 => ?_)
  · exfalso
    omega
  · exact G_throwW (text := "no such partition") hX tw_272 rfl (by decide) dX6_partitionAt_21 dX6_partitionAt_24 dX6_partitionAt_25 dX6_partitionAt_28 dX6_partitionAt_31 ⟨⟨Nat.le_of_ble_eq_true rfl, Nat.le_of_ble_eq_true rfl⟩, Nat.le_of_ble_eq_true rfl, Nat.le_of_ble_eq_true rfl⟩ ⟨Nat.le_of_ble_eq_true rfl, Nat.le_of_ble_eq_true rfl⟩ ⟨rfl, rfl, rfl⟩
set_option maxHeartbeats 4000000 in
set_option maxRecDepth 100000 in
theorem c_X6_partitionAt_x {l : Launch} {Δ : zDl} {ad : zK → Nat} {P : zP} {S : zS} {X : zMem} {t p : Int} (hP : zWP P) (hr : zR t) (hq : zR p) (hn : ¬ ((0 ≤ t ∧ t < P 0 0 0) ∧ (0 ≤ p ∧ p < P 1 t 0))) (hst : l.stackTraces = false) : zMx l Δ yX6_partitionAt cX6_partitionAt 4 (some (.object "TailraceBroker$Partition")) 7 1 6 [.ref (ad (0, 0, 0, 0)), .int (zI t), .int (zI p)] ad (mm Δ ad P S X) zF0 (zE "java/lang/IndexOutOfBoundsException" ad (mm Δ ad P S X)) := by
  by_cases ht : 0 ≤ t ∧ t < P 0 0 0
  · exact c_X6_partitionAt_xb hP ht hq (fun h => hn ⟨ht, h⟩) hst
  · exact c_X6_partitionAt_xa hP hr ht hst
set_option maxHeartbeats 4000000 in
set_option maxRecDepth 100000 in
theorem c_X6_groupAt {l : Launch} {Δ : zDl} {ad : zK → Nat} {P : zP} {S : zS} {X : zMem} {g : Int} (hP : zWP P) (hg : 0 ≤ g ∧ g < P 3 0 0) : zMn l Δ yX6_groupAt cX6_groupAt 2 (some (.object "TailraceBroker$Group")) 5 0 0 [.ref (ad (0, 0, 0, 0)), .int (zI g)] ad (mm Δ ad P S X) (zD (some (.ref (ad (15, g, 0, 0)))) ad (mm Δ ad P S X)) := by
  refine zMn_of (by decide) (Nat.le_of_ble_eq_true rfl) (fun Γ hl hΔ hF => ?_)
  subst hl hΔ
  show G Γ _ _ _ RX6 _ _ _ _ _ [(0, .ref (ad (0, 0, 0, 0))), (1, .int (zI g))] []
  have hN := hP.n
  refine G_iload_n (pc := 0) 1 1 dX6_groupAt_0 rfl rfl ?_
  refine G_iconst (pc := 1) dX6_groupAt_1 ?_
  refine G_aload_n (pc := 2) 0 0 dX6_groupAt_2 rfl rfl ?_
  refine G_getf (pc := 3) fl_X6_16 dX6_groupAt_3 mg_0 rfl ?_
  refine G_callVd (pc := 6) gk_X6_57 dX6_groupAt_6 mg_6 rfl (c_AL_size_6 ) rfl rfl (Nat.le_of_ble_eq_true rfl) ⟨⟨Nat.le_of_ble_eq_true rfl, Nat.le_of_ble_eq_true rfl⟩, Nat.le_of_ble_eq_true rfl, Nat.le_of_ble_eq_true rfl⟩ ?_
  refine G_iconst (pc := 9) dX6_groupAt_9 ?_
  refine G_isub (pc := 10) dX6_groupAt_10 ?_
  refine G_callSd (pc := 11) gk_X6_46 dX6_groupAt_11 (c_X6_isWithin (by first | assumption | omega | exact ⟨by omega, by omega⟩ | exact hS _ _ | exact hT _ _) (by first | assumption | omega | exact ⟨by omega, by omega⟩ | exact hS _ _ | exact hT _ _) (by first | assumption | omega | exact ⟨by omega, by omega⟩ | exact hS _ _ | exact hT _ _)) rfl rfl (Nat.le_of_ble_eq_true rfl) ⟨⟨Nat.le_of_ble_eq_true rfl, Nat.le_of_ble_eq_true rfl⟩, Nat.le_of_ble_eq_true rfl, Nat.le_of_ble_eq_true rfl⟩ ?_
  refine G_if_ne_b (pc := 14) 28 dX6_groupAt_14 (by decide) (fun c14 => ?_) (fun c14 => ?_)
  · refine G_aload_n (pc := 28) 0 0 dX6_groupAt_28 rfl rfl ?_
    refine G_getf (pc := 29) fl_X6_16 dX6_groupAt_29 mg_0 rfl ?_
    refine G_iload_n (pc := 32) 1 1 dX6_groupAt_32 rfl rfl ?_
    refine G_callVd (pc := 33) gk_X6_111 dX6_groupAt_33 mg_6 rfl (c_AL_get_6 (by first | assumption | omega | exact ⟨by omega, by omega⟩ | exact hS _ _ | exact hT _ _) (by first | assumption | omega | exact ⟨by omega, by omega⟩ | exact hS _ _ | exact hT _ _)) rfl rfl (Nat.le_of_ble_eq_true rfl) ⟨⟨Nat.le_of_ble_eq_true rfl, Nat.le_of_ble_eq_true rfl⟩, Nat.le_of_ble_eq_true rfl, Nat.le_of_ble_eq_true rfl⟩ ?_
    refine G_cast (pc := 36) ct_X6_138 dX6_groupAt_36 (mg_15 (by first | assumption | omega | exact ⟨by omega, by omega⟩ | exact hS _ _ | exact hT _ _)) ?_
    exact G_aret (pc := 39) hF (Or.inl ⟨_, rfl⟩) dX6_groupAt_39 ⟨Nat.le_of_ble_eq_true rfl, Nat.le_of_ble_eq_true rfl⟩ ⟨rfl, rfl, rfl⟩
  · exfalso
    omega
set_option maxHeartbeats 4000000 in
set_option maxRecDepth 100000 in
theorem c_X6_groupAt_x {l : Launch} {Δ : zDl} {ad : zK → Nat} {P : zP} {S : zS} {X : zMem} {g : Int} (hP : zWP P) (hr : zR g) (hn : ¬ (0 ≤ g ∧ g < P 3 0 0)) (hst : l.stackTraces = false) : zMx l Δ yX6_groupAt cX6_groupAt 2 (some (.object "TailraceBroker$Group")) 6 1 6 [.ref (ad (0, 0, 0, 0)), .int (zI g)] ad (mm Δ ad P S X) zF0 (zE "java/lang/IndexOutOfBoundsException" ad (mm Δ ad P S X)) := by
  refine zMx_of hst (by decide) (Nat.le_of_ble_eq_true rfl) (fun Γ hl hΔ hF hX => ?_)
  subst hl hΔ
  show G Γ _ _ _ RX6 _ _ _ _ _ [(0, .ref (ad (0, 0, 0, 0))), (1, .int (zI g))] []
  have hN := hP.n
  refine G_iload_n (pc := 0) 1 1 dX6_groupAt_0 rfl rfl ?_
  refine G_iconst (pc := 1) dX6_groupAt_1 ?_
  refine G_aload_n (pc := 2) 0 0 dX6_groupAt_2 rfl rfl ?_
  refine G_getf (pc := 3) fl_X6_16 dX6_groupAt_3 mg_0 rfl ?_
  refine G_callVd (pc := 6) gk_X6_57 dX6_groupAt_6 mg_6 rfl (c_AL_size_6 ) rfl rfl (Nat.le_of_ble_eq_true rfl) ⟨⟨Nat.le_of_ble_eq_true rfl, Nat.le_of_ble_eq_true rfl⟩, Nat.le_of_ble_eq_true rfl, Nat.le_of_ble_eq_true rfl⟩ ?_
  refine G_iconst (pc := 9) dX6_groupAt_9 ?_
  refine G_isub (pc := 10) dX6_groupAt_10 ?_
  refine G_callSd (pc := 11) gk_X6_46 dX6_groupAt_11 (c_X6_isWithin (by first | assumption | omega | exact ⟨by omega, by omega⟩ | exact hS _ _ | exact hT _ _) (by first | assumption | omega | exact ⟨by omega, by omega⟩ | exact hS _ _ | exact hT _ _) (by first | assumption | omega | exact ⟨by omega, by omega⟩ | exact hS _ _ | exact hT _ _)) rfl rfl (Nat.le_of_ble_eq_true rfl) ⟨⟨Nat.le_of_ble_eq_true rfl, Nat.le_of_ble_eq_true rfl⟩, Nat.le_of_ble_eq_true rfl, Nat.le_of_ble_eq_true rfl⟩ ?_
  refine G_if_ne_b (pc := 14) 28 dX6_groupAt_14 (by decide) (fun c14 => ?_) (fun c14 => ?_)
  · exfalso
    omega
  · exact G_throwW (text := "no such group") hX tw_272 rfl (by decide) dX6_groupAt_17 dX6_groupAt_20 dX6_groupAt_21 dX6_groupAt_24 dX6_groupAt_27 ⟨⟨Nat.le_of_ble_eq_true rfl, Nat.le_of_ble_eq_true rfl⟩, Nat.le_of_ble_eq_true rfl, Nat.le_of_ble_eq_true rfl⟩ ⟨Nat.le_of_ble_eq_true rfl, Nat.le_of_ble_eq_true rfl⟩ ⟨rfl, rfl, rfl⟩
set_option maxHeartbeats 4000000 in
set_option maxRecDepth 100000 in
theorem c_X6_refuseOtherPartitions {l : Launch} {Δ : zDl} {ad : zK → Nat} {P : zP} {S : zS} {X : zMem} {g p : Int} (hP : zWP P) (hg : 0 ≤ g ∧ g < P 3 0 0) (hp : 0 ≤ p ∧ p < P 1 (P 4 g 0) 0) : zMn l Δ yX6_refuseOtherPartitions cX6_refuseOtherPartitions 2 none 4 0 0 [.ref (ad (15, g, 0, 0)), .int (zI p)] ad (mm Δ ad P S X) (zD none ad (mm Δ ad P S X)) := by
  refine zMn_of (by decide) (Nat.le_of_ble_eq_true rfl) (fun Γ hl hΔ hF => ?_)
  subst hl hΔ
  show G Γ _ _ _ RX6 _ _ _ _ _ [(0, .ref (ad (15, g, 0, 0))), (1, .int (zI p))] []
  have hN := hP.n
  have hG := hP.g hg
  have hT := hP.t hG
  refine G_iload_n (pc := 0) 1 1 dX6_refuseOtherPartitions_0 rfl rfl ?_
  refine G_iconst (pc := 1) dX6_refuseOtherPartitions_1 ?_
  refine G_aload_n (pc := 2) 0 0 dX6_refuseOtherPartitions_2 rfl rfl ?_
  refine G_getf (pc := 3) fl_X6_204 dX6_refuseOtherPartitions_3 (mg_15 (by first | assumption | omega | exact ⟨by omega, by omega⟩ | exact hS _ _ | exact hT _ _)) rfl ?_
  refine G_alen (pc := 6) (t := 3) rfl dX6_refuseOtherPartitions_6 (mg_16 (by first | assumption | omega | exact ⟨by omega, by omega⟩ | exact hS _ _ | exact hT _ _)) ?_
  refine G_iconst (pc := 7) dX6_refuseOtherPartitions_7 ?_
  refine G_isub (pc := 8) dX6_refuseOtherPartitions_8 ?_
  refine G_callSd (pc := 9) gk_X6_46 dX6_refuseOtherPartitions_9 (c_X6_isWithin (by first | assumption | omega | exact ⟨by omega, by omega⟩ | exact hS _ _ | exact hT _ _) (by first | assumption | omega | exact ⟨by omega, by omega⟩ | exact hS _ _ | exact hT _ _) (by first | assumption | omega | exact ⟨by omega, by omega⟩ | exact hS _ _ | exact hT _ _)) rfl rfl (Nat.le_of_ble_eq_true rfl) ⟨⟨Nat.le_of_ble_eq_true rfl, Nat.le_of_ble_eq_true rfl⟩, Nat.le_of_ble_eq_true rfl, Nat.le_of_ble_eq_true rfl⟩ ?_
  refine G_if_ne_b (pc := 12) 26 dX6_refuseOtherPartitions_12 (by decide) (fun c12 => ?_) (fun c12 => ?_)
  · exact G_vret_d (pc := 26) hF dX6_refuseOtherPartitions_26 ⟨Nat.le_of_ble_eq_true rfl, Nat.le_of_ble_eq_true rfl⟩ rfl
  · exfalso
    omega
set_option maxHeartbeats 4000000 in
set_option maxRecDepth 100000 in
theorem c_X6_refuseOtherPartitions_x {l : Launch} {Δ : zDl} {ad : zK → Nat} {P : zP} {S : zS} {X : zMem} {g p : Int} (hP : zWP P) (hg : 0 ≤ g ∧ g < P 3 0 0) (hr : zR p) (hn : ¬ (0 ≤ p ∧ p < P 1 (P 4 g 0) 0)) (hst : l.stackTraces = false) : zMx l Δ yX6_refuseOtherPartitions cX6_refuseOtherPartitions 2 none 6 1 6 [.ref (ad (15, g, 0, 0)), .int (zI p)] ad (mm Δ ad P S X) zF0 (zE "java/lang/IndexOutOfBoundsException" ad (mm Δ ad P S X)) := by
  refine zMx_of hst (by decide) (Nat.le_of_ble_eq_true rfl) (fun Γ hl hΔ hF hX => ?_)
  subst hl hΔ
  show G Γ _ _ _ RX6 _ _ _ _ _ [(0, .ref (ad (15, g, 0, 0))), (1, .int (zI p))] []
  have hN := hP.n
  have hG := hP.g hg
  have hT := hP.t hG
  refine G_iload_n (pc := 0) 1 1 dX6_refuseOtherPartitions_0 rfl rfl ?_
  refine G_iconst (pc := 1) dX6_refuseOtherPartitions_1 ?_
  refine G_aload_n (pc := 2) 0 0 dX6_refuseOtherPartitions_2 rfl rfl ?_
  refine G_getf (pc := 3) fl_X6_204 dX6_refuseOtherPartitions_3 (mg_15 (by first | assumption | omega | exact ⟨by omega, by omega⟩ | exact hS _ _ | exact hT _ _)) rfl ?_
  refine G_alen (pc := 6) (t := 3) rfl dX6_refuseOtherPartitions_6 (mg_16 (by first | assumption | omega | exact ⟨by omega, by omega⟩ | exact hS _ _ | exact hT _ _)) ?_
  refine G_iconst (pc := 7) dX6_refuseOtherPartitions_7 ?_
  refine G_isub (pc := 8) dX6_refuseOtherPartitions_8 ?_
  refine G_callSd (pc := 9) gk_X6_46 dX6_refuseOtherPartitions_9 (c_X6_isWithin (by first | assumption | omega | exact ⟨by omega, by omega⟩ | exact hS _ _ | exact hT _ _) (by first | assumption | omega | exact ⟨by omega, by omega⟩ | exact hS _ _ | exact hT _ _) (by first | assumption | omega | exact ⟨by omega, by omega⟩ | exact hS _ _ | exact hT _ _)) rfl rfl (Nat.le_of_ble_eq_true rfl) ⟨⟨Nat.le_of_ble_eq_true rfl, Nat.le_of_ble_eq_true rfl⟩, Nat.le_of_ble_eq_true rfl, Nat.le_of_ble_eq_true rfl⟩ ?_
  refine G_if_ne_b (pc := 12) 26 dX6_refuseOtherPartitions_12 (by decide) (fun c12 => ?_) (fun c12 => ?_)
  · exfalso
    omega
  · exact G_throwW (text := "no such partition of its topic") hX tw_272 rfl (by decide) dX6_refuseOtherPartitions_15 dX6_refuseOtherPartitions_18 dX6_refuseOtherPartitions_19 dX6_refuseOtherPartitions_22 dX6_refuseOtherPartitions_25 ⟨⟨Nat.le_of_ble_eq_true rfl, Nat.le_of_ble_eq_true rfl⟩, Nat.le_of_ble_eq_true rfl, Nat.le_of_ble_eq_true rfl⟩ ⟨Nat.le_of_ble_eq_true rfl, Nat.le_of_ble_eq_true rfl⟩ ⟨rfl, rfl, rfl⟩
set_option maxHeartbeats 4000000 in
set_option maxRecDepth 100000 in
theorem c_X6_progressAt {l : Launch} {Δ : zDl} {ad : zK → Nat} {P : zP} {S : zS} {X : zMem} {g p : Int} (hP : zWP P) (hg : 0 ≤ g ∧ g < P 3 0 0) (hp : 0 ≤ p ∧ p < P 1 (P 4 g 0) 0) : zMn l Δ yX6_progressAt cX6_progressAt 4 (some (.object "TailraceBroker$Progress")) 6 0 0 [.ref (ad (0, 0, 0, 0)), .int (zI g), .int (zI p)] ad (mm Δ ad P S X) (zD (some (.ref (ad (18, g, p, 0)))) ad (mm Δ ad P S X)) := by
  refine zMn_of (by decide) (Nat.le_of_ble_eq_true rfl) (fun Γ hl hΔ hF => ?_)
  subst hl hΔ
  show G Γ _ _ _ RX6 _ _ _ _ _ [(0, .ref (ad (0, 0, 0, 0))), (1, .int (zI g)), (2, .int (zI p))] []
  have hN := hP.n
  have hG := hP.g hg
  have hT := hP.t hG
  refine G_aload_n (pc := 0) 0 0 dX6_progressAt_0 rfl rfl ?_
  refine G_iload_n (pc := 1) 1 1 dX6_progressAt_1 rfl rfl ?_
  refine G_callVd (pc := 2) gk_X6_186 dX6_progressAt_2 mg_0 rfl (c_X6_groupAt (by first | assumption | omega | exact ⟨by omega, by omega⟩ | exact hS _ _ | exact hT _ _) (by first | assumption | omega | exact ⟨by omega, by omega⟩ | exact hS _ _ | exact hT _ _)) rfl rfl (Nat.le_of_ble_eq_true rfl) ⟨⟨Nat.le_of_ble_eq_true rfl, Nat.le_of_ble_eq_true rfl⟩, Nat.le_of_ble_eq_true rfl, Nat.le_of_ble_eq_true rfl⟩ ?_
  refine G_astore_n (pc := 5) 3 [(3, .ref (ad (15, g, 0, 0))), (0, .ref (ad (0, 0, 0, 0))), (1, .int (zI g)), (2, .int (zI p))] dX6_progressAt_5 rfl (by decide) rfl ?_
  refine G_aload_n (pc := 6) 3 0 dX6_progressAt_6 rfl rfl ?_
  refine G_iload_n (pc := 7) 2 3 dX6_progressAt_7 rfl rfl ?_
  refine G_callSv (pc := 8) gk_X6_275 dX6_progressAt_8 (c_X6_refuseOtherPartitions (by first | assumption | omega | exact ⟨by omega, by omega⟩ | exact hS _ _ | exact hT _ _) (by first | assumption | omega | exact ⟨by omega, by omega⟩ | exact hS _ _ | exact hT _ _) (by first | assumption | omega | exact ⟨by omega, by omega⟩ | exact hS _ _ | exact hT _ _)) rfl rfl (Nat.le_of_ble_eq_true rfl) ⟨⟨Nat.le_of_ble_eq_true rfl, Nat.le_of_ble_eq_true rfl⟩, Nat.le_of_ble_eq_true rfl, Nat.le_of_ble_eq_true rfl⟩ ?_
  refine G_aload_n (pc := 11) 3 0 dX6_progressAt_11 rfl rfl ?_
  refine G_getf (pc := 12) fl_X6_204 dX6_progressAt_12 (mg_15 (by first | assumption | omega | exact ⟨by omega, by omega⟩ | exact hS _ _ | exact hT _ _)) rfl ?_
  refine G_iload_n (pc := 15) 2 3 dX6_progressAt_15 rfl rfl ?_
  refine G_aald (pc := 16) (t := 3) rfl dX6_progressAt_16 (mg_16 (by first | assumption | omega | exact ⟨by omega, by omega⟩ | exact hS _ _ | exact hT _ _)) ⟨by omega, by omega, by omega, by omega⟩ rfl ?_
  exact G_aret (pc := 17) hF (Or.inl ⟨_, rfl⟩) dX6_progressAt_17 ⟨Nat.le_of_ble_eq_true rfl, Nat.le_of_ble_eq_true rfl⟩ ⟨rfl, rfl, rfl⟩
set_option maxHeartbeats 4000000 in
set_option maxRecDepth 100000 in
theorem c_X6_progressAt_xa {l : Launch} {Δ : zDl} {ad : zK → Nat} {P : zP} {S : zS} {X : zMem} {g p : Int} (hP : zWP P) (hr : zR g) (hn : ¬ (0 ≤ g ∧ g < P 3 0 0)) (hst : l.stackTraces = false) : zMx l Δ yX6_progressAt cX6_progressAt 4 (some (.object "TailraceBroker$Progress")) 7 1 6 [.ref (ad (0, 0, 0, 0)), .int (zI g), .int (zI p)] ad (mm Δ ad P S X) zF0 (zE "java/lang/IndexOutOfBoundsException" ad (mm Δ ad P S X)) := by
  refine zMx_of hst (by decide) (Nat.le_of_ble_eq_true rfl) (fun Γ hl hΔ hF hX => ?_)
  subst hl hΔ
  show G Γ _ _ _ RX6 _ _ _ _ _ [(0, .ref (ad (0, 0, 0, 0))), (1, .int (zI g)), (2, .int (zI p))] []
  refine G_aload_n (pc := 0) 0 0 dX6_progressAt_0 rfl rfl ?_
  refine G_iload_n (pc := 1) 1 1 dX6_progressAt_1 rfl rfl ?_
  exact G_callVt (pc := 2) gk_X6_186 dX6_progressAt_2 mg_0 rfl (c_X6_groupAt_x (by first | assumption | omega | exact ⟨by omega, by omega⟩ | exact hS _ _ | exact hT _ _) (by first | assumption | omega | exact ⟨by omega, by omega⟩ | exact hS _ _ | exact hT _ _) (by first | assumption | omega | exact ⟨by omega, by omega⟩ | exact hS _ _ | exact hT _ _) hst) rfl rfl (Nat.le_of_ble_eq_true rfl) ⟨⟨Nat.le_of_ble_eq_true rfl, Nat.le_of_ble_eq_true rfl⟩, Nat.le_of_ble_eq_true rfl, Nat.le_of_ble_eq_true rfl⟩ hX ⟨Nat.le_of_ble_eq_true rfl, Nat.le_of_ble_eq_true rfl⟩ ⟨rfl, rfl, rfl⟩
set_option maxHeartbeats 4000000 in
set_option maxRecDepth 100000 in
theorem c_X6_progressAt_xb {l : Launch} {Δ : zDl} {ad : zK → Nat} {P : zP} {S : zS} {X : zMem} {g p : Int} (hP : zWP P) (hg : 0 ≤ g ∧ g < P 3 0 0) (hr : zR p) (hn : ¬ (0 ≤ p ∧ p < P 1 (P 4 g 0) 0)) (hst : l.stackTraces = false) : zMx l Δ yX6_progressAt cX6_progressAt 4 (some (.object "TailraceBroker$Progress")) 7 1 6 [.ref (ad (0, 0, 0, 0)), .int (zI g), .int (zI p)] ad (mm Δ ad P S X) zF0 (zE "java/lang/IndexOutOfBoundsException" ad (mm Δ ad P S X)) := by
  refine zMx_of hst (by decide) (Nat.le_of_ble_eq_true rfl) (fun Γ hl hΔ hF hX => ?_)
  subst hl hΔ
  show G Γ _ _ _ RX6 _ _ _ _ _ [(0, .ref (ad (0, 0, 0, 0))), (1, .int (zI g)), (2, .int (zI p))] []
  have hN := hP.n
  have hG := hP.g hg
  have hT := hP.t hG
  refine G_aload_n (pc := 0) 0 0 dX6_progressAt_0 rfl rfl ?_
  refine G_iload_n (pc := 1) 1 1 dX6_progressAt_1 rfl rfl ?_
  refine G_callVd (pc := 2) gk_X6_186 dX6_progressAt_2 mg_0 rfl (c_X6_groupAt (by first | assumption | omega | exact ⟨by omega, by omega⟩ | exact hS _ _ | exact hT _ _) (by first | assumption | omega | exact ⟨by omega, by omega⟩ | exact hS _ _ | exact hT _ _)) rfl rfl (Nat.le_of_ble_eq_true rfl) ⟨⟨Nat.le_of_ble_eq_true rfl, Nat.le_of_ble_eq_true rfl⟩, Nat.le_of_ble_eq_true rfl, Nat.le_of_ble_eq_true rfl⟩ ?_
  refine G_astore_n (pc := 5) 3 [(3, .ref (ad (15, g, 0, 0))), (0, .ref (ad (0, 0, 0, 0))), (1, .int (zI g)), (2, .int (zI p))] dX6_progressAt_5 rfl (by decide) rfl ?_
  refine G_aload_n (pc := 6) 3 0 dX6_progressAt_6 rfl rfl ?_
  refine G_iload_n (pc := 7) 2 3 dX6_progressAt_7 rfl rfl ?_
  exact G_callSt (pc := 8) gk_X6_275 dX6_progressAt_8 (c_X6_refuseOtherPartitions_x (by first | assumption | omega | exact ⟨by omega, by omega⟩ | exact hS _ _ | exact hT _ _) (by first | assumption | omega | exact ⟨by omega, by omega⟩ | exact hS _ _ | exact hT _ _) (by first | assumption | omega | exact ⟨by omega, by omega⟩ | exact hS _ _ | exact hT _ _) (by first | assumption | omega | exact ⟨by omega, by omega⟩ | exact hS _ _ | exact hT _ _) hst) rfl rfl (Nat.le_of_ble_eq_true rfl) ⟨⟨Nat.le_of_ble_eq_true rfl, Nat.le_of_ble_eq_true rfl⟩, Nat.le_of_ble_eq_true rfl, Nat.le_of_ble_eq_true rfl⟩ hX ⟨Nat.le_of_ble_eq_true rfl, Nat.le_of_ble_eq_true rfl⟩ ⟨rfl, rfl, rfl⟩
set_option maxHeartbeats 4000000 in
set_option maxRecDepth 100000 in
theorem c_X6_progressAt_x {l : Launch} {Δ : zDl} {ad : zK → Nat} {P : zP} {S : zS} {X : zMem} {g p : Int} (hP : zWP P) (hr : zR g) (hq : zR p) (hn : ¬ ((0 ≤ g ∧ g < P 3 0 0) ∧ (0 ≤ p ∧ p < P 1 (P 4 g 0) 0))) (hst : l.stackTraces = false) : zMx l Δ yX6_progressAt cX6_progressAt 4 (some (.object "TailraceBroker$Progress")) 7 1 6 [.ref (ad (0, 0, 0, 0)), .int (zI g), .int (zI p)] ad (mm Δ ad P S X) zF0 (zE "java/lang/IndexOutOfBoundsException" ad (mm Δ ad P S X)) := by
  by_cases hg : 0 ≤ g ∧ g < P 3 0 0
  · exact c_X6_progressAt_xb hP hg hq (fun h => hn ⟨hg, h⟩) hst
  · exact c_X6_progressAt_xa hP hr hg hst
set_option maxHeartbeats 4000000 in
set_option maxRecDepth 100000 in
theorem c_X6_refuseOtherProducers {l : Launch} {Δ : zDl} {ad : zK → Nat} {P : zP} {S : zS} {X : zMem} {x : Int} (hx : 0 ≤ x ∧ x < 4) : zMn l Δ yX6_refuseOtherProducers cX6_refuseOtherProducers 1 none 4 0 0 [.int (zI x)] ad (mm Δ ad P S X) (zD none ad (mm Δ ad P S X)) := by
  refine zMn_of (by decide) (Nat.le_of_ble_eq_true rfl) (fun Γ hl hΔ hF => ?_)
  subst hl hΔ
  show G Γ _ _ _ RX6 _ _ _ _ _ [(0, .int (zI x))] []
  refine G_iload_n (pc := 0) 0 0 dX6_refuseOtherProducers_0 rfl rfl ?_
  refine G_iconst (pc := 1) dX6_refuseOtherProducers_1 ?_
  refine G_iconst (pc := 2) dX6_refuseOtherProducers_2 ?_
  refine G_callSd (pc := 3) gk_X6_46 dX6_refuseOtherProducers_3 (c_X6_isWithin (by first | assumption | omega | exact ⟨by omega, by omega⟩ | exact hS _ _ | exact hT _ _) (by first | assumption | omega | exact ⟨by omega, by omega⟩ | exact hS _ _ | exact hT _ _) (by first | assumption | omega | exact ⟨by omega, by omega⟩ | exact hS _ _ | exact hT _ _)) rfl rfl (Nat.le_of_ble_eq_true rfl) ⟨⟨Nat.le_of_ble_eq_true rfl, Nat.le_of_ble_eq_true rfl⟩, Nat.le_of_ble_eq_true rfl, Nat.le_of_ble_eq_true rfl⟩ ?_
  refine G_if_ne_b (pc := 6) 20 dX6_refuseOtherProducers_6 (by decide) (fun c6 => ?_) (fun c6 => ?_)
  · exact G_vret_d (pc := 20) hF dX6_refuseOtherProducers_20 ⟨Nat.le_of_ble_eq_true rfl, Nat.le_of_ble_eq_true rfl⟩ rfl
  · exfalso
    omega
set_option maxHeartbeats 4000000 in
set_option maxRecDepth 100000 in
theorem c_X6_refuseOtherProducers_x {l : Launch} {Δ : zDl} {ad : zK → Nat} {P : zP} {S : zS} {X : zMem} {x : Int} (hr : zR x) (hn : ¬ (0 ≤ x ∧ x < 4)) (hst : l.stackTraces = false) : zMx l Δ yX6_refuseOtherProducers cX6_refuseOtherProducers 1 none 6 1 6 [.int (zI x)] ad (mm Δ ad P S X) zF0 (zE "java/lang/IndexOutOfBoundsException" ad (mm Δ ad P S X)) := by
  refine zMx_of hst (by decide) (Nat.le_of_ble_eq_true rfl) (fun Γ hl hΔ hF hX => ?_)
  subst hl hΔ
  show G Γ _ _ _ RX6 _ _ _ _ _ [(0, .int (zI x))] []
  refine G_iload_n (pc := 0) 0 0 dX6_refuseOtherProducers_0 rfl rfl ?_
  refine G_iconst (pc := 1) dX6_refuseOtherProducers_1 ?_
  refine G_iconst (pc := 2) dX6_refuseOtherProducers_2 ?_
  refine G_callSd (pc := 3) gk_X6_46 dX6_refuseOtherProducers_3 (c_X6_isWithin (by first | assumption | omega | exact ⟨by omega, by omega⟩ | exact hS _ _ | exact hT _ _) (by first | assumption | omega | exact ⟨by omega, by omega⟩ | exact hS _ _ | exact hT _ _) (by first | assumption | omega | exact ⟨by omega, by omega⟩ | exact hS _ _ | exact hT _ _)) rfl rfl (Nat.le_of_ble_eq_true rfl) ⟨⟨Nat.le_of_ble_eq_true rfl, Nat.le_of_ble_eq_true rfl⟩, Nat.le_of_ble_eq_true rfl, Nat.le_of_ble_eq_true rfl⟩ ?_
  refine G_if_ne_b (pc := 6) 20 dX6_refuseOtherProducers_6 (by decide) (fun c6 => ?_) (fun c6 => ?_)
  · exfalso
    omega
  · exact G_throwW (text := "no such producer") hX tw_272 rfl (by decide) dX6_refuseOtherProducers_9 dX6_refuseOtherProducers_12 dX6_refuseOtherProducers_13 dX6_refuseOtherProducers_16 dX6_refuseOtherProducers_19 ⟨⟨Nat.le_of_ble_eq_true rfl, Nat.le_of_ble_eq_true rfl⟩, Nat.le_of_ble_eq_true rfl, Nat.le_of_ble_eq_true rfl⟩ ⟨Nat.le_of_ble_eq_true rfl, Nat.le_of_ble_eq_true rfl⟩ ⟨rfl, rfl, rfl⟩
set_option maxHeartbeats 4000000 in
set_option maxRecDepth 100000 in
theorem c_X6_refuseOtherReaders {l : Launch} {Δ : zDl} {ad : zK → Nat} {P : zP} {S : zS} {X : zMem} {x : Int} (hx : 0 ≤ x ∧ x < 6) : zMn l Δ yX6_refuseOtherReaders cX6_refuseOtherReaders 1 none 4 0 0 [.int (zI x)] ad (mm Δ ad P S X) (zD none ad (mm Δ ad P S X)) := by
  refine zMn_of (by decide) (Nat.le_of_ble_eq_true rfl) (fun Γ hl hΔ hF => ?_)
  subst hl hΔ
  show G Γ _ _ _ RX6 _ _ _ _ _ [(0, .int (zI x))] []
  refine G_iload_n (pc := 0) 0 0 dX6_refuseOtherReaders_0 rfl rfl ?_
  refine G_iconst (pc := 1) dX6_refuseOtherReaders_1 ?_
  refine G_iconst (pc := 2) dX6_refuseOtherReaders_2 ?_
  refine G_callSd (pc := 3) gk_X6_46 dX6_refuseOtherReaders_3 (c_X6_isWithin (by first | assumption | omega | exact ⟨by omega, by omega⟩ | exact hS _ _ | exact hT _ _) (by first | assumption | omega | exact ⟨by omega, by omega⟩ | exact hS _ _ | exact hT _ _) (by first | assumption | omega | exact ⟨by omega, by omega⟩ | exact hS _ _ | exact hT _ _)) rfl rfl (Nat.le_of_ble_eq_true rfl) ⟨⟨Nat.le_of_ble_eq_true rfl, Nat.le_of_ble_eq_true rfl⟩, Nat.le_of_ble_eq_true rfl, Nat.le_of_ble_eq_true rfl⟩ ?_
  refine G_if_ne_b (pc := 6) 20 dX6_refuseOtherReaders_6 (by decide) (fun c6 => ?_) (fun c6 => ?_)
  · exact G_vret_d (pc := 20) hF dX6_refuseOtherReaders_20 ⟨Nat.le_of_ble_eq_true rfl, Nat.le_of_ble_eq_true rfl⟩ rfl
  · exfalso
    omega
set_option maxHeartbeats 4000000 in
set_option maxRecDepth 100000 in
theorem c_X6_refuseOtherReaders_x {l : Launch} {Δ : zDl} {ad : zK → Nat} {P : zP} {S : zS} {X : zMem} {x : Int} (hr : zR x) (hn : ¬ (0 ≤ x ∧ x < 6)) (hst : l.stackTraces = false) : zMx l Δ yX6_refuseOtherReaders cX6_refuseOtherReaders 1 none 6 1 6 [.int (zI x)] ad (mm Δ ad P S X) zF0 (zE "java/lang/IndexOutOfBoundsException" ad (mm Δ ad P S X)) := by
  refine zMx_of hst (by decide) (Nat.le_of_ble_eq_true rfl) (fun Γ hl hΔ hF hX => ?_)
  subst hl hΔ
  show G Γ _ _ _ RX6 _ _ _ _ _ [(0, .int (zI x))] []
  refine G_iload_n (pc := 0) 0 0 dX6_refuseOtherReaders_0 rfl rfl ?_
  refine G_iconst (pc := 1) dX6_refuseOtherReaders_1 ?_
  refine G_iconst (pc := 2) dX6_refuseOtherReaders_2 ?_
  refine G_callSd (pc := 3) gk_X6_46 dX6_refuseOtherReaders_3 (c_X6_isWithin (by first | assumption | omega | exact ⟨by omega, by omega⟩ | exact hS _ _ | exact hT _ _) (by first | assumption | omega | exact ⟨by omega, by omega⟩ | exact hS _ _ | exact hT _ _) (by first | assumption | omega | exact ⟨by omega, by omega⟩ | exact hS _ _ | exact hT _ _)) rfl rfl (Nat.le_of_ble_eq_true rfl) ⟨⟨Nat.le_of_ble_eq_true rfl, Nat.le_of_ble_eq_true rfl⟩, Nat.le_of_ble_eq_true rfl, Nat.le_of_ble_eq_true rfl⟩ ?_
  refine G_if_ne_b (pc := 6) 20 dX6_refuseOtherReaders_6 (by decide) (fun c6 => ?_) (fun c6 => ?_)
  · exfalso
    omega
  · exact G_throwW (text := "no such reader") hX tw_272 rfl (by decide) dX6_refuseOtherReaders_9 dX6_refuseOtherReaders_12 dX6_refuseOtherReaders_13 dX6_refuseOtherReaders_16 dX6_refuseOtherReaders_19 ⟨⟨Nat.le_of_ble_eq_true rfl, Nat.le_of_ble_eq_true rfl⟩, Nat.le_of_ble_eq_true rfl, Nat.le_of_ble_eq_true rfl⟩ ⟨Nat.le_of_ble_eq_true rfl, Nat.le_of_ble_eq_true rfl⟩ ⟨rfl, rfl, rfl⟩
set_option maxHeartbeats 4000000 in
set_option maxRecDepth 100000 in
theorem c_X6_refuseOtherWhats {l : Launch} {Δ : zDl} {ad : zK → Nat} {P : zP} {S : zS} {X : zMem} {x : Int} (hx : 0 ≤ x ∧ x ≤ 4) : zMn l Δ yX6_refuseOtherWhats cX6_refuseOtherWhats 1 none 4 0 0 [.int (zI x)] ad (mm Δ ad P S X) (zD none ad (mm Δ ad P S X)) := by
  refine zMn_of (by decide) (Nat.le_of_ble_eq_true rfl) (fun Γ hl hΔ hF => ?_)
  subst hl hΔ
  show G Γ _ _ _ RX6 _ _ _ _ _ [(0, .int (zI x))] []
  refine G_iload_n (pc := 0) 0 0 dX6_refuseOtherWhats_0 rfl rfl ?_
  refine G_iconst (pc := 1) dX6_refuseOtherWhats_1 ?_
  refine G_iconst (pc := 2) dX6_refuseOtherWhats_2 ?_
  refine G_callSd (pc := 3) gk_X6_46 dX6_refuseOtherWhats_3 (c_X6_isWithin (by first | assumption | omega | exact ⟨by omega, by omega⟩ | exact hS _ _ | exact hT _ _) (by first | assumption | omega | exact ⟨by omega, by omega⟩ | exact hS _ _ | exact hT _ _) (by first | assumption | omega | exact ⟨by omega, by omega⟩ | exact hS _ _ | exact hT _ _)) rfl rfl (Nat.le_of_ble_eq_true rfl) ⟨⟨Nat.le_of_ble_eq_true rfl, Nat.le_of_ble_eq_true rfl⟩, Nat.le_of_ble_eq_true rfl, Nat.le_of_ble_eq_true rfl⟩ ?_
  refine G_if_ne_b (pc := 6) 20 dX6_refuseOtherWhats_6 (by decide) (fun c6 => ?_) (fun c6 => ?_)
  · exact G_vret_d (pc := 20) hF dX6_refuseOtherWhats_20 ⟨Nat.le_of_ble_eq_true rfl, Nat.le_of_ble_eq_true rfl⟩ rfl
  · exfalso
    omega
set_option maxHeartbeats 4000000 in
set_option maxRecDepth 100000 in
theorem c_X6_refuseOtherWhats_x {l : Launch} {Δ : zDl} {ad : zK → Nat} {P : zP} {S : zS} {X : zMem} {x : Int} (hr : zR x) (hn : ¬ (0 ≤ x ∧ x ≤ 4)) (hst : l.stackTraces = false) : zMx l Δ yX6_refuseOtherWhats cX6_refuseOtherWhats 1 none 6 1 6 [.int (zI x)] ad (mm Δ ad P S X) zF0 (zE "java/lang/IllegalArgumentException" ad (mm Δ ad P S X)) := by
  refine zMx_of hst (by decide) (Nat.le_of_ble_eq_true rfl) (fun Γ hl hΔ hF hX => ?_)
  subst hl hΔ
  show G Γ _ _ _ RX6 _ _ _ _ _ [(0, .int (zI x))] []
  refine G_iload_n (pc := 0) 0 0 dX6_refuseOtherWhats_0 rfl rfl ?_
  refine G_iconst (pc := 1) dX6_refuseOtherWhats_1 ?_
  refine G_iconst (pc := 2) dX6_refuseOtherWhats_2 ?_
  refine G_callSd (pc := 3) gk_X6_46 dX6_refuseOtherWhats_3 (c_X6_isWithin (by first | assumption | omega | exact ⟨by omega, by omega⟩ | exact hS _ _ | exact hT _ _) (by first | assumption | omega | exact ⟨by omega, by omega⟩ | exact hS _ _ | exact hT _ _) (by first | assumption | omega | exact ⟨by omega, by omega⟩ | exact hS _ _ | exact hT _ _)) rfl rfl (Nat.le_of_ble_eq_true rfl) ⟨⟨Nat.le_of_ble_eq_true rfl, Nat.le_of_ble_eq_true rfl⟩, Nat.le_of_ble_eq_true rfl, Nat.le_of_ble_eq_true rfl⟩ ?_
  refine G_if_ne_b (pc := 6) 20 dX6_refuseOtherWhats_6 (by decide) (fun c6 => ?_) (fun c6 => ?_)
  · exfalso
    omega
  · exact G_throwW (text := "what is 0 to 4") hX tw_54 rfl (by decide) dX6_refuseOtherWhats_9 dX6_refuseOtherWhats_12 dX6_refuseOtherWhats_13 dX6_refuseOtherWhats_16 dX6_refuseOtherWhats_19 ⟨⟨Nat.le_of_ble_eq_true rfl, Nat.le_of_ble_eq_true rfl⟩, Nat.le_of_ble_eq_true rfl, Nat.le_of_ble_eq_true rfl⟩ ⟨Nat.le_of_ble_eq_true rfl, Nat.le_of_ble_eq_true rfl⟩ ⟨rfl, rfl, rfl⟩
set_option maxHeartbeats 4000000 in
set_option maxRecDepth 100000 in
theorem c_X6_refuseOtherOffsets {l : Launch} {Δ : zDl} {ad : zK → Nat} {P : zP} {S : zS} {X : zMem} {t p x : Int} (hP : zWP P) (ht : 0 ≤ t ∧ t < P 0 0 0) (hp : 0 ≤ p ∧ p < P 1 t 0) (hx : 0 ≤ x ∧ x < P 2 t p) : zMn l Δ yX6_refuseOtherOffsets cX6_refuseOtherOffsets 2 none 4 0 0 [.ref (ad (11, t, p, 0)), .int (zI x)] ad (mm Δ ad P S X) (zD none ad (mm Δ ad P S X)) := by
  refine zMn_of (by decide) (Nat.le_of_ble_eq_true rfl) (fun Γ hl hΔ hF => ?_)
  subst hl hΔ
  show G Γ _ _ _ RX6 _ _ _ _ _ [(0, .ref (ad (11, t, p, 0))), (1, .int (zI x))] []
  have hM := hP.m ht hp
  refine G_aload_n (pc := 0) 0 0 dX6_refuseOtherOffsets_0 rfl rfl ?_
  refine G_iload_n (pc := 1) 1 1 dX6_refuseOtherOffsets_1 rfl rfl ?_
  refine G_callVd (pc := 2) gk_X6_338 dX6_refuseOtherOffsets_2 (mg_11 (by first | assumption | omega | exact ⟨by omega, by omega⟩ | exact hS _ _ | exact hT _ _)) rfl (c_X3_has (by first | assumption | omega | exact ⟨by omega, by omega⟩ | exact hS _ _ | exact hT _ _) (by first | assumption | omega | exact ⟨by omega, by omega⟩ | exact hS _ _ | exact hT _ _) (by first | assumption | omega | exact ⟨by omega, by omega⟩ | exact hS _ _ | exact hT _ _) (by first | assumption | omega | exact ⟨by omega, by omega⟩ | exact hS _ _ | exact hT _ _)) rfl rfl (Nat.le_of_ble_eq_true rfl) ⟨⟨Nat.le_of_ble_eq_true rfl, Nat.le_of_ble_eq_true rfl⟩, Nat.le_of_ble_eq_true rfl, Nat.le_of_ble_eq_true rfl⟩ ?_
  refine G_if_ne_b (pc := 5) 19 dX6_refuseOtherOffsets_5 (by decide) (fun c5 => ?_) (fun c5 => ?_)
  · exact G_vret_d (pc := 19) hF dX6_refuseOtherOffsets_19 ⟨Nat.le_of_ble_eq_true rfl, Nat.le_of_ble_eq_true rfl⟩ rfl
  · exfalso
    omega
set_option maxHeartbeats 4000000 in
set_option maxRecDepth 100000 in
theorem c_X6_refuseOtherOffsets_x {l : Launch} {Δ : zDl} {ad : zK → Nat} {P : zP} {S : zS} {X : zMem} {t p x : Int} (hP : zWP P) (ht : 0 ≤ t ∧ t < P 0 0 0) (hp : 0 ≤ p ∧ p < P 1 t 0) (hr : zR x) (hn : ¬ (0 ≤ x ∧ x < P 2 t p)) (hst : l.stackTraces = false) : zMx l Δ yX6_refuseOtherOffsets cX6_refuseOtherOffsets 2 none 6 1 6 [.ref (ad (11, t, p, 0)), .int (zI x)] ad (mm Δ ad P S X) zF0 (zE "java/lang/IndexOutOfBoundsException" ad (mm Δ ad P S X)) := by
  refine zMx_of hst (by decide) (Nat.le_of_ble_eq_true rfl) (fun Γ hl hΔ hF hX => ?_)
  subst hl hΔ
  show G Γ _ _ _ RX6 _ _ _ _ _ [(0, .ref (ad (11, t, p, 0))), (1, .int (zI x))] []
  have hM := hP.m ht hp
  refine G_aload_n (pc := 0) 0 0 dX6_refuseOtherOffsets_0 rfl rfl ?_
  refine G_iload_n (pc := 1) 1 1 dX6_refuseOtherOffsets_1 rfl rfl ?_
  refine G_callVd (pc := 2) gk_X6_338 dX6_refuseOtherOffsets_2 (mg_11 (by first | assumption | omega | exact ⟨by omega, by omega⟩ | exact hS _ _ | exact hT _ _)) rfl (c_X3_has (by first | assumption | omega | exact ⟨by omega, by omega⟩ | exact hS _ _ | exact hT _ _) (by first | assumption | omega | exact ⟨by omega, by omega⟩ | exact hS _ _ | exact hT _ _) (by first | assumption | omega | exact ⟨by omega, by omega⟩ | exact hS _ _ | exact hT _ _) (by first | assumption | omega | exact ⟨by omega, by omega⟩ | exact hS _ _ | exact hT _ _)) rfl rfl (Nat.le_of_ble_eq_true rfl) ⟨⟨Nat.le_of_ble_eq_true rfl, Nat.le_of_ble_eq_true rfl⟩, Nat.le_of_ble_eq_true rfl, Nat.le_of_ble_eq_true rfl⟩ ?_
  refine G_if_ne_b (pc := 5) 19 dX6_refuseOtherOffsets_5 (by decide) (fun c5 => ?_) (fun c5 => ?_)
  · exfalso
    omega
  · exact G_throwW (text := "no such message") hX tw_272 rfl (by decide) dX6_refuseOtherOffsets_8 dX6_refuseOtherOffsets_11 dX6_refuseOtherOffsets_12 dX6_refuseOtherOffsets_15 dX6_refuseOtherOffsets_18 ⟨⟨Nat.le_of_ble_eq_true rfl, Nat.le_of_ble_eq_true rfl⟩, Nat.le_of_ble_eq_true rfl, Nat.le_of_ble_eq_true rfl⟩ ⟨Nat.le_of_ble_eq_true rfl, Nat.le_of_ble_eq_true rfl⟩ ⟨rfl, rfl, rfl⟩
set_option maxHeartbeats 4000000 in
set_option maxRecDepth 100000 in
theorem c_X6_refuseUnlessOut {l : Launch} {Δ : zDl} {ad : zK → Nat} {P : zP} {S : zS} {X : zMem} {g p x : Int} (hP : zWP P) (hg : 0 ≤ g ∧ g < P 3 0 0) (hp : 0 ≤ p ∧ p < P 1 (P 4 g 0) 0) (hW : zWS P S) (hx : (0 ≤ x ∧ x < P 2 (P 4 g 0) p) ∧ S (19, g, p, 0) x = 1) : zMn l Δ yX6_refuseUnlessOut cX6_refuseUnlessOut 2 none 5 0 0 [.ref (ad (18, g, p, 0)), .int (zI x)] ad (mm Δ ad P S X) (zD none ad (mm Δ ad P S X)) := by
  refine zMn_of (by decide) (Nat.le_of_ble_eq_true rfl) (fun Γ hl hΔ hF => ?_)
  subst hl hΔ
  show G Γ _ _ _ RX6 _ _ _ _ _ [(0, .ref (ad (18, g, p, 0))), (1, .int (zI x))] []
  have hG := hP.g hg
  have hM := hP.m hG hp
  have hN := hP.t hG
  have hS := hW.R
  have hW5 := hW.m hg hp
  refine G_aload_n (pc := 0) 0 0 dX6_refuseUnlessOut_0 rfl rfl ?_
  refine G_iload_n (pc := 1) 1 1 dX6_refuseUnlessOut_1 rfl rfl ?_
  refine G_callVd (pc := 2) gk_X6_316 dX6_refuseUnlessOut_2 (mg_18 (by first | assumption | omega | exact ⟨by omega, by omega⟩ | exact hS _ _ | exact hT _ _)) rfl (c_X4_isOut (by first | assumption | omega | exact ⟨by omega, by omega⟩ | exact hS _ _ | exact hT _ _) (by first | assumption | omega | exact ⟨by omega, by omega⟩ | exact hS _ _ | exact hT _ _) (by first | assumption | omega | exact ⟨by omega, by omega⟩ | exact hS _ _ | exact hT _ _) (by first | assumption | omega | exact ⟨by omega, by omega⟩ | exact hS _ _ | exact hT _ _) (by first | assumption | omega | exact ⟨by omega, by omega⟩ | exact hS _ _ | exact hT _ _)) rfl rfl (Nat.le_of_ble_eq_true rfl) ⟨⟨Nat.le_of_ble_eq_true rfl, Nat.le_of_ble_eq_true rfl⟩, Nat.le_of_ble_eq_true rfl, Nat.le_of_ble_eq_true rfl⟩ ?_
  refine G_if_ne_b (pc := 5) 19 dX6_refuseUnlessOut_5 (by decide) (fun c5 => ?_) (fun c5 => ?_)
  · exact G_vret_d (pc := 19) hF dX6_refuseUnlessOut_19 ⟨Nat.le_of_ble_eq_true rfl, Nat.le_of_ble_eq_true rfl⟩ rfl
  · exfalso
    exact c5 hx
set_option maxHeartbeats 4000000 in
set_option maxRecDepth 100000 in
theorem c_X6_refuseUnlessOut_x {l : Launch} {Δ : zDl} {ad : zK → Nat} {P : zP} {S : zS} {X : zMem} {g p x : Int} (hP : zWP P) (hg : 0 ≤ g ∧ g < P 3 0 0) (hp : 0 ≤ p ∧ p < P 1 (P 4 g 0) 0) (hW : zWS P S) (hr : zR x) (hn : ¬ ((0 ≤ x ∧ x < P 2 (P 4 g 0) p) ∧ S (19, g, p, 0) x = 1)) (hst : l.stackTraces = false) : zMx l Δ yX6_refuseUnlessOut cX6_refuseUnlessOut 2 none 6 1 6 [.ref (ad (18, g, p, 0)), .int (zI x)] ad (mm Δ ad P S X) zF0 (zE "java/lang/IllegalStateException" ad (mm Δ ad P S X)) := by
  refine zMx_of hst (by decide) (Nat.le_of_ble_eq_true rfl) (fun Γ hl hΔ hF hX => ?_)
  subst hl hΔ
  show G Γ _ _ _ RX6 _ _ _ _ _ [(0, .ref (ad (18, g, p, 0))), (1, .int (zI x))] []
  have hG := hP.g hg
  have hM := hP.m hG hp
  have hN := hP.t hG
  have hS := hW.R
  have hW5 := hW.m hg hp
  refine G_aload_n (pc := 0) 0 0 dX6_refuseUnlessOut_0 rfl rfl ?_
  refine G_iload_n (pc := 1) 1 1 dX6_refuseUnlessOut_1 rfl rfl ?_
  refine G_callVd (pc := 2) gk_X6_316 dX6_refuseUnlessOut_2 (mg_18 (by first | assumption | omega | exact ⟨by omega, by omega⟩ | exact hS _ _ | exact hT _ _)) rfl (c_X4_isOut (by first | assumption | omega | exact ⟨by omega, by omega⟩ | exact hS _ _ | exact hT _ _) (by first | assumption | omega | exact ⟨by omega, by omega⟩ | exact hS _ _ | exact hT _ _) (by first | assumption | omega | exact ⟨by omega, by omega⟩ | exact hS _ _ | exact hT _ _) (by first | assumption | omega | exact ⟨by omega, by omega⟩ | exact hS _ _ | exact hT _ _) (by first | assumption | omega | exact ⟨by omega, by omega⟩ | exact hS _ _ | exact hT _ _)) rfl rfl (Nat.le_of_ble_eq_true rfl) ⟨⟨Nat.le_of_ble_eq_true rfl, Nat.le_of_ble_eq_true rfl⟩, Nat.le_of_ble_eq_true rfl, Nat.le_of_ble_eq_true rfl⟩ ?_
  refine G_if_ne_b (pc := 5) 19 dX6_refuseUnlessOut_5 (by decide) (fun c5 => ?_) (fun c5 => ?_)
  · exfalso
    exact hn c5
  · exact G_throwW (text := "the offset is not out") hX tw_65 rfl (by decide) dX6_refuseUnlessOut_8 dX6_refuseUnlessOut_11 dX6_refuseUnlessOut_12 dX6_refuseUnlessOut_15 dX6_refuseUnlessOut_18 ⟨⟨Nat.le_of_ble_eq_true rfl, Nat.le_of_ble_eq_true rfl⟩, Nat.le_of_ble_eq_true rfl, Nat.le_of_ble_eq_true rfl⟩ ⟨Nat.le_of_ble_eq_true rfl, Nat.le_of_ble_eq_true rfl⟩ ⟨rfl, rfl, rfl⟩
