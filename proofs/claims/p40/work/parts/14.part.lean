set_option maxHeartbeats 4000000 in
set_option maxRecDepth 100000 in
theorem c_J3_checkIndex_8e157 {l : Launch} {Δ : zDl} {ad : zK → Nat} {P : zP} {S : zS} {X : zMem} {x n : Int} (hx : 0 ≤ x ∧ x < n ∧ n < 2147483648) : zMn l Δ yJ3_checkIndex_8e157 cJ3_checkIndex_8e157 3 (some .int) 1 0 0 [.int (zI x), .int (zI n), .null] ad (mm Δ ad P S X) (zD (some (.int (zI x))) ad (mm Δ ad P S X)) := by
  refine zMn_of (by decide) (Nat.le_of_ble_eq_true rfl) (fun Γ hl hΔ hF => ?_)
  subst hl hΔ
  show G Γ _ _ _ RJ3 _ _ _ _ _ [(0, .int (zI x)), (1, .int (zI n)), (2, .null)] []
  refine G_iload_n (pc := 0) 0 0 dJ3_checkIndex_8e157_0 rfl rfl ?_
  refine G_if_lt (pc := 1) 9 dJ3_checkIndex_8e157_1 (by decide) (by first | exact hS _ _ | exact hT _ _ | exact ⟨by omega, by omega⟩ | assumption) (fun c1 => ?_) (fun c1 => ?_)
  · exfalso
    omega
  · refine G_iload_n (pc := 4) 0 0 dJ3_checkIndex_8e157_4 rfl rfl ?_
    refine G_iload_n (pc := 5) 1 1 dJ3_checkIndex_8e157_5 rfl rfl ?_
    refine G_icmp_lt (pc := 6) 16 dJ3_checkIndex_8e157_6 (by decide) (by first | exact hS _ _ | exact hT _ _ | exact ⟨by omega, by omega⟩ | assumption) (by first | exact hS _ _ | exact hT _ _ | exact ⟨by omega, by omega⟩ | assumption) (fun c6 => ?_) (fun c6 => ?_)
    · refine G_iload_n (pc := 16) 0 0 dJ3_checkIndex_8e157_16 rfl rfl ?_
      exact G_iret_d (pc := 17) hF dJ3_checkIndex_8e157_17 ⟨Nat.le_of_ble_eq_true rfl, Nat.le_of_ble_eq_true rfl⟩ (by first | rfl | omega | simp_all)
    · exfalso
      omega
set_option maxHeartbeats 4000000 in
set_option maxRecDepth 100000 in
theorem c_J15_checkIndex_7cf53 {l : Launch} {Δ : zDl} {ad : zK → Nat} {P : zP} {S : zS} {X : zMem} {x n : Int} (hx : 0 ≤ x ∧ x < n ∧ n < 2147483648) : zMn l Δ yJ15_checkIndex_7cf53 cJ15_checkIndex_7cf53 2 (some .int) 2 0 0 [.int (zI x), .int (zI n)] ad (mm Δ ad P S X) (zD (some (.int (zI x))) ad (mm Δ ad P S X)) := by
  refine zMn_of (by decide) (Nat.le_of_ble_eq_true rfl) (fun Γ hl hΔ hF => ?_)
  subst hl hΔ
  show G Γ _ _ _ RJ15 _ _ _ _ _ [(0, .int (zI x)), (1, .int (zI n))] []
  refine G_iload_n (pc := 0) 0 0 dJ15_checkIndex_7cf53_0 rfl rfl ?_
  refine G_iload_n (pc := 1) 1 1 dJ15_checkIndex_7cf53_1 rfl rfl ?_
  refine G_null (pc := 2) dJ15_checkIndex_7cf53_2 ?_
  refine G_callSd (pc := 3) gk_J15_105 dJ15_checkIndex_7cf53_3 (c_J3_checkIndex_8e157 (by first | assumption | omega | exact ⟨by omega, by omega⟩ | exact hS _ _ | exact hT _ _)) rfl rfl (Nat.le_of_ble_eq_true rfl) ⟨⟨Nat.le_of_ble_eq_true rfl, Nat.le_of_ble_eq_true rfl⟩, Nat.le_of_ble_eq_true rfl, Nat.le_of_ble_eq_true rfl⟩ ?_
  exact G_iret_d (pc := 6) hF dJ15_checkIndex_7cf53_6 ⟨Nat.le_of_ble_eq_true rfl, Nat.le_of_ble_eq_true rfl⟩ (by first | rfl | omega | simp_all)
set_option maxHeartbeats 4000000 in
set_option maxRecDepth 100000 in
theorem c_AL_size_4 {l : Launch} {Δ : zDl} {ad : zK → Nat} {P : zP} {S : zS} {X : zMem}   : zMn l Δ yJx4a65c_size_8abf5 cJx4a65c_size_8abf5 1 (some .int) 1 0 0 [.ref (ad (4, 0, 0, 0))] ad (mm Δ ad P S X) (zD (some (.int (zI (P 0 0 0)))) ad (mm Δ ad P S X)) := by
  refine zMn_of (by decide) (Nat.le_of_ble_eq_true rfl) (fun Γ hl hΔ hF => ?_)
  subst hl hΔ
  show G Γ _ _ _ RJx4a65c _ _ _ _ _ [(0, .ref (ad (4, 0, 0, 0)))] []
  refine G_aload_n (pc := 0) 0 0 dJx4a65c_size_8abf5_0 rfl rfl ?_
  refine G_getf (pc := 1) fl_Jx4a65c_48 dJx4a65c_size_8abf5_1 mg_4 rfl ?_
  exact G_iret_d (pc := 4) hF dJx4a65c_size_8abf5_4 ⟨Nat.le_of_ble_eq_true rfl, Nat.le_of_ble_eq_true rfl⟩ (by first | rfl | omega | simp_all)
set_option maxHeartbeats 4000000 in
set_option maxRecDepth 100000 in
theorem c_AL_elementData_4 {l : Launch} {Δ : zDl} {ad : zK → Nat} {P : zP} {S : zS} {X : zMem} {x : Int} (hP : zWP P) (hx : 0 ≤ x ∧ x < P 0 0 0) : zMn l Δ yJx4a65c_elementData_915e3 cJx4a65c_elementData_915e3 2 (some (.object "java/lang/Object")) 1 0 0 [.ref (ad (4, 0, 0, 0)), .int (zI x)] ad (mm Δ ad P S X) (zD (some (.ref (ad (8, x, 0, 0)))) ad (mm Δ ad P S X)) := by
  refine zMn_of (by decide) (Nat.le_of_ble_eq_true rfl) (fun Γ hl hΔ hF => ?_)
  subst hl hΔ
  show G Γ _ _ _ RJx4a65c _ _ _ _ _ [(0, .ref (ad (4, 0, 0, 0))), (1, .int (zI x))] []
  have hN := hP.n
  refine G_aload_n (pc := 0) 0 0 dJx4a65c_elementData_915e3_0 rfl rfl ?_
  refine G_getf (pc := 1) fl_Jx4a65c_9 dJx4a65c_elementData_915e3_1 mg_4 (congrArg (fun q => some (Value.ref q)) (if_neg (by omega))) ?_
  refine G_iload_n (pc := 4) 1 1 dJx4a65c_elementData_915e3_4 rfl rfl ?_
  refine G_aald (pc := 5) (t := 4) rfl dJx4a65c_elementData_915e3_5 (mg_5 (by first | assumption | omega | exact ⟨by omega, by omega⟩ | exact hS _ _ | exact hT _ _)) ⟨by omega, by omega, by omega, by omega⟩ (if_pos (by omega)) ?_
  exact G_aret (pc := 6) hF (Or.inl ⟨_, rfl⟩) dJx4a65c_elementData_915e3_6 ⟨Nat.le_of_ble_eq_true rfl, Nat.le_of_ble_eq_true rfl⟩ ⟨rfl, rfl, rfl⟩
set_option maxHeartbeats 4000000 in
set_option maxRecDepth 100000 in
theorem c_AL_get_4 {l : Launch} {Δ : zDl} {ad : zK → Nat} {P : zP} {S : zS} {X : zMem} {x : Int} (hP : zWP P) (hx : 0 ≤ x ∧ x < P 0 0 0) : zMn l Δ yJx4a65c_get_915e3 cJx4a65c_get_915e3 2 (some (.object "java/lang/Object")) 3 0 0 [.ref (ad (4, 0, 0, 0)), .int (zI x)] ad (mm Δ ad P S X) (zD (some (.ref (ad (8, x, 0, 0)))) ad (mm Δ ad P S X)) := by
  refine zMn_of (by decide) (Nat.le_of_ble_eq_true rfl) (fun Γ hl hΔ hF => ?_)
  subst hl hΔ
  show G Γ _ _ _ RJx4a65c _ _ _ _ _ [(0, .ref (ad (4, 0, 0, 0))), (1, .int (zI x))] []
  have hN := hP.n
  refine G_iload_n (pc := 0) 1 1 dJx4a65c_get_915e3_0 rfl rfl ?_
  refine G_aload_n (pc := 1) 0 0 dJx4a65c_get_915e3_1 rfl rfl ?_
  refine G_getf (pc := 2) fl_Jx4a65c_48 dJx4a65c_get_915e3_2 mg_4 rfl ?_
  refine G_callSd (pc := 5) gk_Jx4a65c_118 dJx4a65c_get_915e3_5 (c_J15_checkIndex_7cf53 (by first | assumption | omega | exact ⟨by omega, by omega⟩ | exact hS _ _ | exact hT _ _)) rfl rfl (Nat.le_of_ble_eq_true rfl) ⟨⟨Nat.le_of_ble_eq_true rfl, Nat.le_of_ble_eq_true rfl⟩, Nat.le_of_ble_eq_true rfl, Nat.le_of_ble_eq_true rfl⟩ ?_
  refine G_pop (pc := 8) dJx4a65c_get_915e3_8 rfl ?_
  refine G_aload_n (pc := 9) 0 0 dJx4a65c_get_915e3_9 rfl rfl ?_
  refine G_iload_n (pc := 10) 1 1 dJx4a65c_get_915e3_10 rfl rfl ?_
  refine G_callVd (pc := 11) gk_Jx4a65c_123 dJx4a65c_get_915e3_11 mg_4 rfl (c_AL_elementData_4 (by first | assumption | omega | exact ⟨by omega, by omega⟩ | exact hS _ _ | exact hT _ _) (by first | assumption | omega | exact ⟨by omega, by omega⟩ | exact hS _ _ | exact hT _ _)) rfl rfl (Nat.le_of_ble_eq_true rfl) ⟨⟨Nat.le_of_ble_eq_true rfl, Nat.le_of_ble_eq_true rfl⟩, Nat.le_of_ble_eq_true rfl, Nat.le_of_ble_eq_true rfl⟩ ?_
  exact G_aret (pc := 14) hF (Or.inl ⟨_, rfl⟩) dJx4a65c_get_915e3_14 ⟨Nat.le_of_ble_eq_true rfl, Nat.le_of_ble_eq_true rfl⟩ ⟨rfl, rfl, rfl⟩
set_option maxHeartbeats 4000000 in
set_option maxRecDepth 100000 in
theorem c_AL_size_6 {l : Launch} {Δ : zDl} {ad : zK → Nat} {P : zP} {S : zS} {X : zMem}   : zMn l Δ yJx4a65c_size_8abf5 cJx4a65c_size_8abf5 1 (some .int) 1 0 0 [.ref (ad (6, 0, 0, 0))] ad (mm Δ ad P S X) (zD (some (.int (zI (P 3 0 0)))) ad (mm Δ ad P S X)) := by
  refine zMn_of (by decide) (Nat.le_of_ble_eq_true rfl) (fun Γ hl hΔ hF => ?_)
  subst hl hΔ
  show G Γ _ _ _ RJx4a65c _ _ _ _ _ [(0, .ref (ad (6, 0, 0, 0)))] []
  refine G_aload_n (pc := 0) 0 0 dJx4a65c_size_8abf5_0 rfl rfl ?_
  refine G_getf (pc := 1) fl_Jx4a65c_48 dJx4a65c_size_8abf5_1 mg_6 rfl ?_
  exact G_iret_d (pc := 4) hF dJx4a65c_size_8abf5_4 ⟨Nat.le_of_ble_eq_true rfl, Nat.le_of_ble_eq_true rfl⟩ (by first | rfl | omega | simp_all)
set_option maxHeartbeats 4000000 in
set_option maxRecDepth 100000 in
theorem c_AL_elementData_6 {l : Launch} {Δ : zDl} {ad : zK → Nat} {P : zP} {S : zS} {X : zMem} {x : Int} (hP : zWP P) (hx : 0 ≤ x ∧ x < P 3 0 0) : zMn l Δ yJx4a65c_elementData_915e3 cJx4a65c_elementData_915e3 2 (some (.object "java/lang/Object")) 1 0 0 [.ref (ad (6, 0, 0, 0)), .int (zI x)] ad (mm Δ ad P S X) (zD (some (.ref (ad (15, x, 0, 0)))) ad (mm Δ ad P S X)) := by
  refine zMn_of (by decide) (Nat.le_of_ble_eq_true rfl) (fun Γ hl hΔ hF => ?_)
  subst hl hΔ
  show G Γ _ _ _ RJx4a65c _ _ _ _ _ [(0, .ref (ad (6, 0, 0, 0))), (1, .int (zI x))] []
  have hN := hP.n
  refine G_aload_n (pc := 0) 0 0 dJx4a65c_elementData_915e3_0 rfl rfl ?_
  refine G_getf (pc := 1) fl_Jx4a65c_9 dJx4a65c_elementData_915e3_1 mg_6 (congrArg (fun q => some (Value.ref q)) (if_neg (by omega))) ?_
  refine G_iload_n (pc := 4) 1 1 dJx4a65c_elementData_915e3_4 rfl rfl ?_
  refine G_aald (pc := 5) (t := 4) rfl dJx4a65c_elementData_915e3_5 (mg_7 (by first | assumption | omega | exact ⟨by omega, by omega⟩ | exact hS _ _ | exact hT _ _)) ⟨by omega, by omega, by omega, by omega⟩ (if_pos (by omega)) ?_
  exact G_aret (pc := 6) hF (Or.inl ⟨_, rfl⟩) dJx4a65c_elementData_915e3_6 ⟨Nat.le_of_ble_eq_true rfl, Nat.le_of_ble_eq_true rfl⟩ ⟨rfl, rfl, rfl⟩
set_option maxHeartbeats 4000000 in
set_option maxRecDepth 100000 in
theorem c_AL_get_6 {l : Launch} {Δ : zDl} {ad : zK → Nat} {P : zP} {S : zS} {X : zMem} {x : Int} (hP : zWP P) (hx : 0 ≤ x ∧ x < P 3 0 0) : zMn l Δ yJx4a65c_get_915e3 cJx4a65c_get_915e3 2 (some (.object "java/lang/Object")) 3 0 0 [.ref (ad (6, 0, 0, 0)), .int (zI x)] ad (mm Δ ad P S X) (zD (some (.ref (ad (15, x, 0, 0)))) ad (mm Δ ad P S X)) := by
  refine zMn_of (by decide) (Nat.le_of_ble_eq_true rfl) (fun Γ hl hΔ hF => ?_)
  subst hl hΔ
  show G Γ _ _ _ RJx4a65c _ _ _ _ _ [(0, .ref (ad (6, 0, 0, 0))), (1, .int (zI x))] []
  have hN := hP.n
  refine G_iload_n (pc := 0) 1 1 dJx4a65c_get_915e3_0 rfl rfl ?_
  refine G_aload_n (pc := 1) 0 0 dJx4a65c_get_915e3_1 rfl rfl ?_
  refine G_getf (pc := 2) fl_Jx4a65c_48 dJx4a65c_get_915e3_2 mg_6 rfl ?_
  refine G_callSd (pc := 5) gk_Jx4a65c_118 dJx4a65c_get_915e3_5 (c_J15_checkIndex_7cf53 (by first | assumption | omega | exact ⟨by omega, by omega⟩ | exact hS _ _ | exact hT _ _)) rfl rfl (Nat.le_of_ble_eq_true rfl) ⟨⟨Nat.le_of_ble_eq_true rfl, Nat.le_of_ble_eq_true rfl⟩, Nat.le_of_ble_eq_true rfl, Nat.le_of_ble_eq_true rfl⟩ ?_
  refine G_pop (pc := 8) dJx4a65c_get_915e3_8 rfl ?_
  refine G_aload_n (pc := 9) 0 0 dJx4a65c_get_915e3_9 rfl rfl ?_
  refine G_iload_n (pc := 10) 1 1 dJx4a65c_get_915e3_10 rfl rfl ?_
  refine G_callVd (pc := 11) gk_Jx4a65c_123 dJx4a65c_get_915e3_11 mg_6 rfl (c_AL_elementData_6 (by first | assumption | omega | exact ⟨by omega, by omega⟩ | exact hS _ _ | exact hT _ _) (by first | assumption | omega | exact ⟨by omega, by omega⟩ | exact hS _ _ | exact hT _ _)) rfl rfl (Nat.le_of_ble_eq_true rfl) ⟨⟨Nat.le_of_ble_eq_true rfl, Nat.le_of_ble_eq_true rfl⟩, Nat.le_of_ble_eq_true rfl, Nat.le_of_ble_eq_true rfl⟩ ?_
  exact G_aret (pc := 14) hF (Or.inl ⟨_, rfl⟩) dJx4a65c_get_915e3_14 ⟨Nat.le_of_ble_eq_true rfl, Nat.le_of_ble_eq_true rfl⟩ ⟨rfl, rfl, rfl⟩
set_option maxHeartbeats 4000000 in
set_option maxRecDepth 100000 in
theorem c_AL_size_12 {l : Launch} {Δ : zDl} {ad : zK → Nat} {P : zP} {S : zS} {X : zMem} {t p : Int} (ht : 0 ≤ t ∧ t < P 0 0 0) (hp : 0 ≤ p ∧ p < P 1 t 0) : zMn l Δ yJx4a65c_size_8abf5 cJx4a65c_size_8abf5 1 (some .int) 1 0 0 [.ref (ad (12, t, p, 0))] ad (mm Δ ad P S X) (zD (some (.int (zI (P 2 t p)))) ad (mm Δ ad P S X)) := by
  refine zMn_of (by decide) (Nat.le_of_ble_eq_true rfl) (fun Γ hl hΔ hF => ?_)
  subst hl hΔ
  show G Γ _ _ _ RJx4a65c _ _ _ _ _ [(0, .ref (ad (12, t, p, 0)))] []
  refine G_aload_n (pc := 0) 0 0 dJx4a65c_size_8abf5_0 rfl rfl ?_
  refine G_getf (pc := 1) fl_Jx4a65c_48 dJx4a65c_size_8abf5_1 (mg_12 (by first | assumption | omega | exact ⟨by omega, by omega⟩ | exact hS _ _ | exact hT _ _)) rfl ?_
  exact G_iret_d (pc := 4) hF dJx4a65c_size_8abf5_4 ⟨Nat.le_of_ble_eq_true rfl, Nat.le_of_ble_eq_true rfl⟩ (by first | rfl | omega | simp_all)
set_option maxHeartbeats 4000000 in
set_option maxRecDepth 100000 in
theorem c_AL_elementData_12 {l : Launch} {Δ : zDl} {ad : zK → Nat} {P : zP} {S : zS} {X : zMem} {t p x : Int} (hP : zWP P) (ht : 0 ≤ t ∧ t < P 0 0 0) (hp : 0 ≤ p ∧ p < P 1 t 0) (hx : 0 ≤ x ∧ x < P 2 t p) : zMn l Δ yJx4a65c_elementData_915e3 cJx4a65c_elementData_915e3 2 (some (.object "java/lang/Object")) 1 0 0 [.ref (ad (12, t, p, 0)), .int (zI x)] ad (mm Δ ad P S X) (zD (some (.ref (ad (14, t, p, x)))) ad (mm Δ ad P S X)) := by
  refine zMn_of (by decide) (Nat.le_of_ble_eq_true rfl) (fun Γ hl hΔ hF => ?_)
  subst hl hΔ
  show G Γ _ _ _ RJx4a65c _ _ _ _ _ [(0, .ref (ad (12, t, p, 0))), (1, .int (zI x))] []
  have hM := hP.m ht hp
  refine G_aload_n (pc := 0) 0 0 dJx4a65c_elementData_915e3_0 rfl rfl ?_
  refine G_getf (pc := 1) fl_Jx4a65c_9 dJx4a65c_elementData_915e3_1 (mg_12 (by first | assumption | omega | exact ⟨by omega, by omega⟩ | exact hS _ _ | exact hT _ _)) (congrArg (fun q => some (Value.ref q)) (if_neg (by omega))) ?_
  refine G_iload_n (pc := 4) 1 1 dJx4a65c_elementData_915e3_4 rfl rfl ?_
  refine G_aald (pc := 5) (t := 4) rfl dJx4a65c_elementData_915e3_5 (mg_13 (by first | assumption | omega | exact ⟨by omega, by omega⟩ | exact hS _ _ | exact hT _ _)) ⟨by omega, by omega, by omega, by omega⟩ (if_pos (by omega)) ?_
  exact G_aret (pc := 6) hF (Or.inl ⟨_, rfl⟩) dJx4a65c_elementData_915e3_6 ⟨Nat.le_of_ble_eq_true rfl, Nat.le_of_ble_eq_true rfl⟩ ⟨rfl, rfl, rfl⟩
set_option maxHeartbeats 4000000 in
set_option maxRecDepth 100000 in
theorem c_AL_get_12 {l : Launch} {Δ : zDl} {ad : zK → Nat} {P : zP} {S : zS} {X : zMem} {t p x : Int} (hP : zWP P) (ht : 0 ≤ t ∧ t < P 0 0 0) (hp : 0 ≤ p ∧ p < P 1 t 0) (hx : 0 ≤ x ∧ x < P 2 t p) : zMn l Δ yJx4a65c_get_915e3 cJx4a65c_get_915e3 2 (some (.object "java/lang/Object")) 3 0 0 [.ref (ad (12, t, p, 0)), .int (zI x)] ad (mm Δ ad P S X) (zD (some (.ref (ad (14, t, p, x)))) ad (mm Δ ad P S X)) := by
  refine zMn_of (by decide) (Nat.le_of_ble_eq_true rfl) (fun Γ hl hΔ hF => ?_)
  subst hl hΔ
  show G Γ _ _ _ RJx4a65c _ _ _ _ _ [(0, .ref (ad (12, t, p, 0))), (1, .int (zI x))] []
  have hM := hP.m ht hp
  refine G_iload_n (pc := 0) 1 1 dJx4a65c_get_915e3_0 rfl rfl ?_
  refine G_aload_n (pc := 1) 0 0 dJx4a65c_get_915e3_1 rfl rfl ?_
  refine G_getf (pc := 2) fl_Jx4a65c_48 dJx4a65c_get_915e3_2 (mg_12 (by first | assumption | omega | exact ⟨by omega, by omega⟩ | exact hS _ _ | exact hT _ _)) rfl ?_
  refine G_callSd (pc := 5) gk_Jx4a65c_118 dJx4a65c_get_915e3_5 (c_J15_checkIndex_7cf53 (by first | assumption | omega | exact ⟨by omega, by omega⟩ | exact hS _ _ | exact hT _ _)) rfl rfl (Nat.le_of_ble_eq_true rfl) ⟨⟨Nat.le_of_ble_eq_true rfl, Nat.le_of_ble_eq_true rfl⟩, Nat.le_of_ble_eq_true rfl, Nat.le_of_ble_eq_true rfl⟩ ?_
  refine G_pop (pc := 8) dJx4a65c_get_915e3_8 rfl ?_
  refine G_aload_n (pc := 9) 0 0 dJx4a65c_get_915e3_9 rfl rfl ?_
  refine G_iload_n (pc := 10) 1 1 dJx4a65c_get_915e3_10 rfl rfl ?_
  refine G_callVd (pc := 11) gk_Jx4a65c_123 dJx4a65c_get_915e3_11 (mg_12 (by first | assumption | omega | exact ⟨by omega, by omega⟩ | exact hS _ _ | exact hT _ _)) rfl (c_AL_elementData_12 (by first | assumption | omega | exact ⟨by omega, by omega⟩ | exact hS _ _ | exact hT _ _) (by first | assumption | omega | exact ⟨by omega, by omega⟩ | exact hS _ _ | exact hT _ _) (by first | assumption | omega | exact ⟨by omega, by omega⟩ | exact hS _ _ | exact hT _ _) (by first | assumption | omega | exact ⟨by omega, by omega⟩ | exact hS _ _ | exact hT _ _)) rfl rfl (Nat.le_of_ble_eq_true rfl) ⟨⟨Nat.le_of_ble_eq_true rfl, Nat.le_of_ble_eq_true rfl⟩, Nat.le_of_ble_eq_true rfl, Nat.le_of_ble_eq_true rfl⟩ ?_
  exact G_aret (pc := 14) hF (Or.inl ⟨_, rfl⟩) dJx4a65c_get_915e3_14 ⟨Nat.le_of_ble_eq_true rfl, Nat.le_of_ble_eq_true rfl⟩ ⟨rfl, rfl, rfl⟩
set_option maxHeartbeats 4000000 in
set_option maxRecDepth 100000 in
theorem c_X2_isKept {l : Launch} {Δ : zDl} {ad : zK → Nat} {P : zP} {S : zS} {X : zMem} {t p o : Int} (ht : 0 ≤ t ∧ t < P 0 0 0) (hp : 0 ≤ p ∧ p < P 1 t 0) (ho : 0 ≤ o ∧ o < P 2 t p) (hS : ∀ k f, zR (S k f)) : zMn l Δ yX2_isKept cX2_isKept 1 (some .boolean) 1 0 0 [.ref (ad (14, t, p, o))] ad (mm Δ ad P S X) (zD (some (.int (zI (if zkp S t p o then 1 else 0)))) ad (mm Δ ad P S X)) := by
  refine zMn_of (by decide) (Nat.le_of_ble_eq_true rfl) (fun Γ hl hΔ hF => ?_)
  subst hl hΔ
  show G Γ _ _ _ RX2 _ _ _ _ _ [(0, .ref (ad (14, t, p, o)))] []
  refine G_aload_n (pc := 0) 0 0 dX2_isKept_0 rfl rfl ?_
  refine G_getf (pc := 1) fl_X2_28 dX2_isKept_1 (mg_14 (by first | assumption | omega | exact ⟨by omega, by omega⟩ | exact hS _ _ | exact hT _ _)) rfl ?_
  refine G_if_ne (pc := 4) 18 dX2_isKept_4 (by decide) (by first | exact hS _ _ | exact hT _ _ | exact ⟨by omega, by omega⟩ | assumption) (fun c4 => ?_) (fun c4 => ?_)
  · refine G_iconst (pc := 18) dX2_isKept_18 ?_
    exact G_zret_d (pc := 19) hF dX2_isKept_19 ⟨Nat.le_of_ble_eq_true rfl, Nat.le_of_ble_eq_true rfl⟩ (by first | exact zb_ite | omega) (by first | exact (if_pos (by first | assumption | omega)).symm | exact (if_neg (by first | assumption | omega)).symm | rfl | omega)
  · refine G_aload_n (pc := 7) 0 0 dX2_isKept_7 rfl rfl ?_
    refine G_getf (pc := 8) fl_X2_9 dX2_isKept_8 (mg_14 (by first | assumption | omega | exact ⟨by omega, by omega⟩ | exact hS _ _ | exact hT _ _)) rfl ?_
    refine G_if_ne (pc := 11) 18 dX2_isKept_11 (by decide) (by first | exact hS _ _ | exact hT _ _ | exact ⟨by omega, by omega⟩ | assumption) (fun c11 => ?_) (fun c11 => ?_)
    · refine G_iconst (pc := 18) dX2_isKept_18 ?_
      exact G_zret_d (pc := 19) hF dX2_isKept_19 ⟨Nat.le_of_ble_eq_true rfl, Nat.le_of_ble_eq_true rfl⟩ (by first | exact zb_ite | omega) (by first | exact (if_pos (by first | assumption | omega)).symm | exact (if_neg (by first | assumption | omega)).symm | rfl | omega)
    · refine G_iconst (pc := 14) dX2_isKept_14 ?_
      refine G_goto (pc := 15) 19 dX2_isKept_15 (by decide) ?_
      exact G_zret_d (pc := 19) hF dX2_isKept_19 ⟨Nat.le_of_ble_eq_true rfl, Nat.le_of_ble_eq_true rfl⟩ (by first | exact zb_ite | omega) (by first | exact (if_pos (by first | assumption | omega)).symm | exact (if_neg (by first | assumption | omega)).symm | rfl | omega)
set_option maxHeartbeats 4000000 in
set_option maxRecDepth 100000 in
theorem c_X3_size {l : Launch} {Δ : zDl} {ad : zK → Nat} {P : zP} {S : zS} {X : zMem} {t p : Int} (ht : 0 ≤ t ∧ t < P 0 0 0) (hp : 0 ≤ p ∧ p < P 1 t 0) : zMn l Δ yX3_size cX3_size 1 (some .int) 2 0 0 [.ref (ad (11, t, p, 0))] ad (mm Δ ad P S X) (zD (some (.int (zI (P 2 t p)))) ad (mm Δ ad P S X)) := by
  refine zMn_of (by decide) (Nat.le_of_ble_eq_true rfl) (fun Γ hl hΔ hF => ?_)
  subst hl hΔ
  show G Γ _ _ _ RX3 _ _ _ _ _ [(0, .ref (ad (11, t, p, 0)))] []
  refine G_aload_n (pc := 0) 0 0 dX3_size_0 rfl rfl ?_
  refine G_getf (pc := 1) fl_X3_12 dX3_size_1 (mg_11 (by first | assumption | omega | exact ⟨by omega, by omega⟩ | exact hS _ _ | exact hT _ _)) rfl ?_
  refine G_callVd (pc := 4) gk_X3_22 dX3_size_4 (mg_12 (by first | assumption | omega | exact ⟨by omega, by omega⟩ | exact hS _ _ | exact hT _ _)) rfl (c_AL_size_12 (by first | assumption | omega | exact ⟨by omega, by omega⟩ | exact hS _ _ | exact hT _ _) (by first | assumption | omega | exact ⟨by omega, by omega⟩ | exact hS _ _ | exact hT _ _)) rfl rfl (Nat.le_of_ble_eq_true rfl) ⟨⟨Nat.le_of_ble_eq_true rfl, Nat.le_of_ble_eq_true rfl⟩, Nat.le_of_ble_eq_true rfl, Nat.le_of_ble_eq_true rfl⟩ ?_
  exact G_iret_d (pc := 7) hF dX3_size_7 ⟨Nat.le_of_ble_eq_true rfl, Nat.le_of_ble_eq_true rfl⟩ (by first | rfl | omega | simp_all)
set_option maxHeartbeats 4000000 in
set_option maxRecDepth 100000 in
theorem c_X3_at {l : Launch} {Δ : zDl} {ad : zK → Nat} {P : zP} {S : zS} {X : zMem} {t p o : Int} (hP : zWP P) (ht : 0 ≤ t ∧ t < P 0 0 0) (hp : 0 ≤ p ∧ p < P 1 t 0) (ho : 0 ≤ o ∧ o < P 2 t p) : zMn l Δ yX3_at cX3_at 2 (some (.object "TailraceBroker$Message")) 4 0 0 [.ref (ad (11, t, p, 0)), .int (zI o)] ad (mm Δ ad P S X) (zD (some (.ref (ad (14, t, p, o)))) ad (mm Δ ad P S X)) := by
  refine zMn_of (by decide) (Nat.le_of_ble_eq_true rfl) (fun Γ hl hΔ hF => ?_)
  subst hl hΔ
  show G Γ _ _ _ RX3 _ _ _ _ _ [(0, .ref (ad (11, t, p, 0))), (1, .int (zI o))] []
  refine G_aload_n (pc := 0) 0 0 dX3_at_0 rfl rfl ?_
  refine G_getf (pc := 1) fl_X3_12 dX3_at_1 (mg_11 (by first | assumption | omega | exact ⟨by omega, by omega⟩ | exact hS _ _ | exact hT _ _)) rfl ?_
  refine G_iload_n (pc := 4) 1 1 dX3_at_4 rfl rfl ?_
  refine G_callVd (pc := 5) gk_X3_30 dX3_at_5 (mg_12 (by first | assumption | omega | exact ⟨by omega, by omega⟩ | exact hS _ _ | exact hT _ _)) rfl (c_AL_get_12 (by first | assumption | omega | exact ⟨by omega, by omega⟩ | exact hS _ _ | exact hT _ _) (by first | assumption | omega | exact ⟨by omega, by omega⟩ | exact hS _ _ | exact hT _ _) (by first | assumption | omega | exact ⟨by omega, by omega⟩ | exact hS _ _ | exact hT _ _) (by first | assumption | omega | exact ⟨by omega, by omega⟩ | exact hS _ _ | exact hT _ _)) rfl rfl (Nat.le_of_ble_eq_true rfl) ⟨⟨Nat.le_of_ble_eq_true rfl, Nat.le_of_ble_eq_true rfl⟩, Nat.le_of_ble_eq_true rfl, Nat.le_of_ble_eq_true rfl⟩ ?_
  refine G_cast (pc := 8) ct_X3_34 dX3_at_8 (mg_14 (by first | assumption | omega | exact ⟨by omega, by omega⟩ | exact hS _ _ | exact hT _ _)) ?_
  exact G_aret (pc := 11) hF (Or.inl ⟨_, rfl⟩) dX3_at_11 ⟨Nat.le_of_ble_eq_true rfl, Nat.le_of_ble_eq_true rfl⟩ ⟨rfl, rfl, rfl⟩
set_option maxHeartbeats 4000000 in
set_option maxRecDepth 100000 in
theorem c_X6_isWithin {l : Launch} {Δ : zDl} {ad : zK → Nat} {P : zP} {S : zS} {X : zMem} {x a b : Int} (hx : zR x) (ha : zR a) (hb : zR b) : zMn l Δ yX6_isWithin cX6_isWithin 3 (some .boolean) 1 0 0 [.int (zI x), .int (zI a), .int (zI b)] ad (mm Δ ad P S X) (zD (some (.int (zI (if a ≤ x ∧ x ≤ b then 1 else 0)))) ad (mm Δ ad P S X)) := by
  refine zMn_of (by decide) (Nat.le_of_ble_eq_true rfl) (fun Γ hl hΔ hF => ?_)
  subst hl hΔ
  show G Γ _ _ _ RX6 _ _ _ _ _ [(0, .int (zI x)), (1, .int (zI a)), (2, .int (zI b))] []
  refine G_iload_n (pc := 0) 0 0 dX6_isWithin_0 rfl rfl ?_
  refine G_iload_n (pc := 1) 1 1 dX6_isWithin_1 rfl rfl ?_
  refine G_icmp_lt (pc := 2) 14 dX6_isWithin_2 (by decide) (by first | exact hS _ _ | exact hT _ _ | exact ⟨by omega, by omega⟩ | assumption | assumption) (by first | exact hS _ _ | exact hT _ _ | exact ⟨by omega, by omega⟩ | assumption | assumption) (fun c2 => ?_) (fun c2 => ?_)
  · refine G_iconst (pc := 14) dX6_isWithin_14 ?_
    exact G_zret_d (pc := 15) hF dX6_isWithin_15 ⟨Nat.le_of_ble_eq_true rfl, Nat.le_of_ble_eq_true rfl⟩ (by first | exact zb_ite | omega) (by first | exact (if_pos (by first | assumption | omega)).symm | exact (if_neg (by first | assumption | omega)).symm | rfl | omega)
  · refine G_iload_n (pc := 5) 0 0 dX6_isWithin_5 rfl rfl ?_
    refine G_iload_n (pc := 6) 2 2 dX6_isWithin_6 rfl rfl ?_
    refine G_icmp_gt (pc := 7) 14 dX6_isWithin_7 (by decide) (by first | exact hS _ _ | exact hT _ _ | exact ⟨by omega, by omega⟩ | assumption | assumption) (by first | exact hS _ _ | exact hT _ _ | exact ⟨by omega, by omega⟩ | assumption | assumption) (fun c7 => ?_) (fun c7 => ?_)
    · refine G_iconst (pc := 14) dX6_isWithin_14 ?_
      exact G_zret_d (pc := 15) hF dX6_isWithin_15 ⟨Nat.le_of_ble_eq_true rfl, Nat.le_of_ble_eq_true rfl⟩ (by first | exact zb_ite | omega) (by first | exact (if_pos (by first | assumption | omega)).symm | exact (if_neg (by first | assumption | omega)).symm | rfl | omega)
    · refine G_iconst (pc := 10) dX6_isWithin_10 ?_
      refine G_goto (pc := 11) 15 dX6_isWithin_11 (by decide) ?_
      exact G_zret_d (pc := 15) hF dX6_isWithin_15 ⟨Nat.le_of_ble_eq_true rfl, Nat.le_of_ble_eq_true rfl⟩ (by first | exact zb_ite | omega) (by first | exact (if_pos (by first | assumption | omega)).symm | exact (if_neg (by first | assumption | omega)).symm | rfl | omega)
set_option maxHeartbeats 4000000 in
set_option maxRecDepth 100000 in
theorem c_X3_has {l : Launch} {Δ : zDl} {ad : zK → Nat} {P : zP} {S : zS} {X : zMem} {t p x : Int} (hP : zWP P) (ht : 0 ≤ t ∧ t < P 0 0 0) (hp : 0 ≤ p ∧ p < P 1 t 0) (hx : zR x) : zMn l Δ yX3_has cX3_has 2 (some .boolean) 3 0 0 [.ref (ad (11, t, p, 0)), .int (zI x)] ad (mm Δ ad P S X) (zD (some (.int (zI (if 0 ≤ x ∧ x ≤ P 2 t p - 1 then 1 else 0)))) ad (mm Δ ad P S X)) := by
  refine zMn_of (by decide) (Nat.le_of_ble_eq_true rfl) (fun Γ hl hΔ hF => ?_)
  subst hl hΔ
  show G Γ _ _ _ RX3 _ _ _ _ _ [(0, .ref (ad (11, t, p, 0))), (1, .int (zI x))] []
  have hM := hP.m ht hp
  refine G_iload_n (pc := 0) 1 1 dX3_has_0 rfl rfl ?_
  refine G_iconst (pc := 1) dX3_has_1 ?_
  refine G_aload_n (pc := 2) 0 0 dX3_has_2 rfl rfl ?_
  refine G_getf (pc := 3) fl_X3_12 dX3_has_3 (mg_11 (by first | assumption | omega | exact ⟨by omega, by omega⟩ | exact hS _ _ | exact hT _ _)) rfl ?_
  refine G_callVd (pc := 6) gk_X3_22 dX3_has_6 (mg_12 (by first | assumption | omega | exact ⟨by omega, by omega⟩ | exact hS _ _ | exact hT _ _)) rfl (c_AL_size_12 (by first | assumption | omega | exact ⟨by omega, by omega⟩ | exact hS _ _ | exact hT _ _) (by first | assumption | omega | exact ⟨by omega, by omega⟩ | exact hS _ _ | exact hT _ _)) rfl rfl (Nat.le_of_ble_eq_true rfl) ⟨⟨Nat.le_of_ble_eq_true rfl, Nat.le_of_ble_eq_true rfl⟩, Nat.le_of_ble_eq_true rfl, Nat.le_of_ble_eq_true rfl⟩ ?_
  refine G_iconst (pc := 9) dX3_has_9 ?_
  refine G_isub (pc := 10) dX3_has_10 ?_
  refine G_callSNd (pc := 11) gk_X3_26 dX3_has_11 (c_X6_isWithin (by first | assumption | omega | exact ⟨by omega, by omega⟩ | exact hS _ _ | exact hT _ _) (by first | assumption | omega | exact ⟨by omega, by omega⟩ | exact hS _ _ | exact hT _ _) (by first | assumption | omega | exact ⟨by omega, by omega⟩ | exact hS _ _ | exact hT _ _)) rfl rfl (Nat.le_of_ble_eq_true rfl) ⟨⟨Nat.le_of_ble_eq_true rfl, Nat.le_of_ble_eq_true rfl⟩, Nat.le_of_ble_eq_true rfl, Nat.le_of_ble_eq_true rfl⟩ ?_
  exact G_zret_d (pc := 14) hF dX3_has_14 ⟨Nat.le_of_ble_eq_true rfl, Nat.le_of_ble_eq_true rfl⟩ (by first | exact zb_ite | omega) rfl
set_option maxHeartbeats 4000000 in
set_option maxRecDepth 100000 in
theorem c_X3_isOld {l : Launch} {Δ : zDl} {ad : zK → Nat} {P : zP} {S : zS} {X : zMem} {t p o x y : Int} (ht : 0 ≤ t ∧ t < P 0 0 0) (hp : 0 ≤ p ∧ p < P 1 t 0) (ho : 0 ≤ o ∧ o < P 2 t p) (hS : ∀ k f, zR (S k f)) (hx : 0 ≤ x ∧ x ≤ 9999) (hy : zR y) (hb : ∀ t p o, 0 ≤ S (14, t, p, o) 2 ∧ S (14, t, p, o) 2 ≤ 9999) : zMn l Δ yX3_isOld cX3_isOld 3 (some .boolean) 1 0 0 [.ref (ad (14, t, p, o)), .int (zI x), .int (zI y)] ad (mm Δ ad P S X) (zD (some (.int (zI (if ¬ S (14, t, p, o) 4 = 2 ∧ y ≤ x - S (14, t, p, o) 2 then 1 else 0)))) ad (mm Δ ad P S X)) := by
  refine zMn_of (by decide) (Nat.le_of_ble_eq_true rfl) (fun Γ hl hΔ hF => ?_)
  subst hl hΔ
  show G Γ _ _ _ RX3 _ _ _ _ _ [(0, .ref (ad (14, t, p, o))), (1, .int (zI x)), (2, .int (zI y))] []
  have hb1 := hb t p o
  refine G_aload_n (pc := 0) 0 0 dX3_isOld_0 rfl rfl ?_
  refine G_getf (pc := 1) fl_X3_45 dX3_isOld_1 (mg_14 (by first | assumption | omega | exact ⟨by omega, by omega⟩ | exact hS _ _ | exact hT _ _)) rfl ?_
  refine G_iconst (pc := 4) dX3_isOld_4 ?_
  refine G_icmp_eq (pc := 5) 22 dX3_isOld_5 (by decide) (by first | exact hS _ _ | exact hT _ _ | exact ⟨by omega, by omega⟩ | assumption | assumption) (by first | exact hS _ _ | exact hT _ _ | exact ⟨by omega, by omega⟩ | assumption | assumption) (fun c5 => ?_) (fun c5 => ?_)
  · refine G_iconst (pc := 22) dX3_isOld_22 ?_
    exact G_zret_d (pc := 23) hF dX3_isOld_23 ⟨Nat.le_of_ble_eq_true rfl, Nat.le_of_ble_eq_true rfl⟩ (by first | exact zb_ite | omega) (by first | exact (if_pos (by first | assumption | omega)).symm | exact (if_neg (by first | assumption | omega)).symm | rfl | omega)
  · refine G_iload_n (pc := 8) 1 1 dX3_isOld_8 rfl rfl ?_
    refine G_aload_n (pc := 9) 0 0 dX3_isOld_9 rfl rfl ?_
    refine G_getf (pc := 10) fl_X3_59 dX3_isOld_10 (mg_14 (by first | assumption | omega | exact ⟨by omega, by omega⟩ | exact hS _ _ | exact hT _ _)) rfl ?_
    refine G_isub (pc := 13) dX3_isOld_13 ?_
    refine G_iload_n (pc := 14) 2 2 dX3_isOld_14 rfl rfl ?_
    refine G_icmp_lt (pc := 15) 22 dX3_isOld_15 (by decide) (by first | exact hS _ _ | exact hT _ _ | exact ⟨by omega, by omega⟩ | assumption | assumption) (by first | exact hS _ _ | exact hT _ _ | exact ⟨by omega, by omega⟩ | assumption | assumption) (fun c15 => ?_) (fun c15 => ?_)
    · refine G_iconst (pc := 22) dX3_isOld_22 ?_
      exact G_zret_d (pc := 23) hF dX3_isOld_23 ⟨Nat.le_of_ble_eq_true rfl, Nat.le_of_ble_eq_true rfl⟩ (by first | exact zb_ite | omega) (by first | exact (if_pos (by first | assumption | omega)).symm | exact (if_neg (by first | assumption | omega)).symm | rfl | omega)
    · refine G_iconst (pc := 18) dX3_isOld_18 ?_
      refine G_goto (pc := 19) 23 dX3_isOld_19 (by decide) ?_
      exact G_zret_d (pc := 23) hF dX3_isOld_23 ⟨Nat.le_of_ble_eq_true rfl, Nat.le_of_ble_eq_true rfl⟩ (by first | exact zb_ite | omega) (by first | exact (if_pos (by first | assumption | omega)).symm | exact (if_neg (by first | assumption | omega)).symm | rfl | omega)
set_option maxHeartbeats 4000000 in
set_option maxRecDepth 100000 in
theorem c_X3_stableEnd {l : Launch} {Δ : zDl} {ad : zK → Nat} {P : zP} {S : zS} {X : zMem} {t p : Int} (hP : zWP P) (ht : 0 ≤ t ∧ t < P 0 0 0) (hp : 0 ≤ p ∧ p < P 1 t 0) (hS : ∀ k f, zR (S k f)) : zMn l Δ yX3_stableEnd cX3_stableEnd 2 (some .int) 5 0 0 [.ref (ad (11, t, p, 0))] ad (mm Δ ad P S X) (zD (some (.int (zI (zse P S t p)))) ad (mm Δ ad P S X)) := by
  refine zMn_of (by decide) (Nat.le_of_ble_eq_true rfl) (fun Γ hl hΔ hF => ?_)
  subst hl hΔ
  show G Γ _ _ _ RX3 _ _ _ _ _ [(0, .ref (ad (11, t, p, 0)))] []
  have hM := hP.m ht hp
  refine G_iconst (pc := 0) dX3_stableEnd_0 ?_
  refine G_istore_ne (pc := 1) 1 (fun w => [(1, .int (zI w)), (0, .ref (ad (11, t, p, 0)))]) dX3_stableEnd_1 rfl (by decide) (fun _ => rfl) (fun v1 e1 => ?_)
  have L2 : ∀ (n : Nat) (o : Int), ((0 ≤ o ∧ o ≤ P 2 t p) ∧ fi (fun o => S (14, t, p, o) 4 = 2) o (P 2 t p) = zse P S t p) → (P 2 t p - o).toNat < n → G Γ (zRm 5 0 0) cX3_stableEnd 2 RX3 ad (mm (z_d Γ) ad P S X) 0 0 2 [(0, .ref (ad (11, t, p, 0))), (1, .int (zI o))] [] := by
    intro n
    induction n with
    | zero => intro o _ hn; omega
    | succ n ih2 =>
      intro o hi2 hn2
      refine G_iload_n (pc := 2) 1 1 dX3_stableEnd_2 rfl rfl ?_
      refine G_aload_n (pc := 3) 0 0 dX3_stableEnd_3 rfl rfl ?_
      refine G_callVd (pc := 4) gk_X3_40 dX3_stableEnd_4 (mg_11 (by first | assumption | omega | exact ⟨by omega, by omega⟩ | exact hS _ _ | exact hT _ _)) rfl (c_X3_size (by first | assumption | omega | exact ⟨by omega, by omega⟩ | exact hS _ _ | exact hT _ _) (by first | assumption | omega | exact ⟨by omega, by omega⟩ | exact hS _ _ | exact hT _ _)) rfl rfl (Nat.le_of_ble_eq_true rfl) ⟨⟨Nat.le_of_ble_eq_true rfl, Nat.le_of_ble_eq_true rfl⟩, Nat.le_of_ble_eq_true rfl, Nat.le_of_ble_eq_true rfl⟩ ?_
      refine G_icmp_ge (pc := 7) 30 dX3_stableEnd_7 (by decide) (by first | exact hS _ _ | exact hT _ _ | exact ⟨by omega, by omega⟩ | assumption) (by first | exact hS _ _ | exact hT _ _ | exact ⟨by omega, by omega⟩ | assumption) (fun c7 => ?_) (fun c7 => ?_)
      · refine G_aload_n (pc := 30) 0 0 dX3_stableEnd_30 rfl rfl ?_
        refine G_callVd (pc := 31) gk_X3_40 dX3_stableEnd_31 (mg_11 (by first | assumption | omega | exact ⟨by omega, by omega⟩ | exact hS _ _ | exact hT _ _)) rfl (c_X3_size (by first | assumption | omega | exact ⟨by omega, by omega⟩ | exact hS _ _ | exact hT _ _) (by first | assumption | omega | exact ⟨by omega, by omega⟩ | exact hS _ _ | exact hT _ _)) rfl rfl (Nat.le_of_ble_eq_true rfl) ⟨⟨Nat.le_of_ble_eq_true rfl, Nat.le_of_ble_eq_true rfl⟩, Nat.le_of_ble_eq_true rfl, Nat.le_of_ble_eq_true rfl⟩ ?_
        exact G_iret_d (pc := 34) hF dX3_stableEnd_34 ⟨Nat.le_of_ble_eq_true rfl, Nat.le_of_ble_eq_true rfl⟩ (by rw [← hi2.2, fi_end (by omega)]; omega)
      · refine G_aload_n (pc := 10) 0 0 dX3_stableEnd_10 rfl rfl ?_
        refine G_iload_n (pc := 11) 1 1 dX3_stableEnd_11 rfl rfl ?_
        refine G_callVd (pc := 12) gk_X3_41 dX3_stableEnd_12 (mg_11 (by first | assumption | omega | exact ⟨by omega, by omega⟩ | exact hS _ _ | exact hT _ _)) rfl (c_X3_at (by first | assumption | omega | exact ⟨by omega, by omega⟩ | exact hS _ _ | exact hT _ _) (by first | assumption | omega | exact ⟨by omega, by omega⟩ | exact hS _ _ | exact hT _ _) (by first | assumption | omega | exact ⟨by omega, by omega⟩ | exact hS _ _ | exact hT _ _) (by first | assumption | omega | exact ⟨by omega, by omega⟩ | exact hS _ _ | exact hT _ _)) rfl rfl (Nat.le_of_ble_eq_true rfl) ⟨⟨Nat.le_of_ble_eq_true rfl, Nat.le_of_ble_eq_true rfl⟩, Nat.le_of_ble_eq_true rfl, Nat.le_of_ble_eq_true rfl⟩ ?_
        refine G_getf (pc := 15) fl_X3_45 dX3_stableEnd_15 (mg_14 (by first | assumption | omega | exact ⟨by omega, by omega⟩ | exact hS _ _ | exact hT _ _)) rfl ?_
        refine G_iconst (pc := 18) dX3_stableEnd_18 ?_
        refine G_icmp_ne (pc := 19) 24 dX3_stableEnd_19 (by decide) (by first | exact hS _ _ | exact hT _ _ | exact ⟨by omega, by omega⟩ | assumption) (by first | exact hS _ _ | exact hT _ _ | exact ⟨by omega, by omega⟩ | assumption) (fun c19 => ?_) (fun c19 => ?_)
        · refine G_iinc_e (pc := 24) 1 (fun w => [(1, .int (zI w)), (0, .ref (ad (11, t, p, 0)))]) dX3_stableEnd_24 rfl (by decide) (fun _ => rfl) (fun v24 e24 => ?_)
          refine G_goto (pc := 27) 2 dX3_stableEnd_27 (by decide) ?_
          refine G_perm (lv' := [(0, .ref (ad (11, t, p, 0))), (1, .int (zI v24))]) [1, 0] rfl ?_
          exact ih2 v24  ⟨by omega, by rw [e24, ← hi2.2]; exact (fi_miss (a := o) (n := P 2 t p) (by omega) c19).symm⟩ (by omega)
        · refine G_iload_n (pc := 22) 1 1 dX3_stableEnd_22 rfl rfl ?_
          exact G_iret_d (pc := 23) hF dX3_stableEnd_23 ⟨Nat.le_of_ble_eq_true rfl, Nat.le_of_ble_eq_true rfl⟩ (by rw [← hi2.2]; exact (fi_hit (a := o) (n := P 2 t p) (by omega) c19).symm)
  refine G_perm (lv' := [(0, .ref (ad (11, t, p, 0))), (1, .int (zI v1))]) [1, 0] rfl ?_
  exact L2 _ v1  ⟨by omega, by subst e1; rfl⟩ (Nat.lt_succ_self _)
set_option maxHeartbeats 4000000 in
set_option maxRecDepth 100000 in
theorem c_X3_countKept {l : Launch} {Δ : zDl} {ad : zK → Nat} {P : zP} {S : zS} {X : zMem} {t p : Int} (hP : zWP P) (ht : 0 ≤ t ∧ t < P 0 0 0) (hp : 0 ≤ p ∧ p < P 1 t 0) (hS : ∀ k f, zR (S k f)) : zMn l Δ yX3_countKept cX3_countKept 3 (some .int) 5 0 0 [.ref (ad (11, t, p, 0))] ad (mm Δ ad P S X) (zD (some (.int (zI (sm (fun o => if zkp S t p o then 1 else 0) 0 (P 2 t p))))) ad (mm Δ ad P S X)) := by
  refine zMn_of (by decide) (Nat.le_of_ble_eq_true rfl) (fun Γ hl hΔ hF => ?_)
  subst hl hΔ
  show G Γ _ _ _ RX3 _ _ _ _ _ [(0, .ref (ad (11, t, p, 0)))] []
  have hM := hP.m ht hp
  refine G_iconst (pc := 0) dX3_countKept_0 ?_
  refine G_istore_ne (pc := 1) 1 (fun w => [(1, .int (zI w)), (0, .ref (ad (11, t, p, 0)))]) dX3_countKept_1 rfl (by decide) (fun _ => rfl) (fun v1 e1 => ?_)
  refine G_iconst (pc := 2) dX3_countKept_2 ?_
  refine G_istore_ne (pc := 3) 2 (fun w => [(2, .int (zI w)), (1, .int (zI v1)), (0, .ref (ad (11, t, p, 0)))]) dX3_countKept_3 rfl (by decide) (fun _ => rfl) (fun v3 e3 => ?_)
  have L4 : ∀ (n : Nat) (m : Int) (o : Int), ((0 ≤ o ∧ o ≤ P 2 t p ∧ 0 ≤ m ∧ m ≤ o) ∧ m + sm (fun o => if zkp S t p o then 1 else 0) o (P 2 t p) = sm (fun o => if zkp S t p o then 1 else 0) 0 (P 2 t p)) → (P 2 t p - o).toNat < n → G Γ (zRm 5 0 0) cX3_countKept 3 RX3 ad (mm (z_d Γ) ad P S X) 0 0 4 [(0, .ref (ad (11, t, p, 0))), (1, .int (zI m)), (2, .int (zI o))] [] := by
    intro n
    induction n with
    | zero => intro m o _ hn; omega
    | succ n ih4 =>
      intro m o hi4 hn4
      refine G_iload_n (pc := 4) 2 2 dX3_countKept_4 rfl rfl ?_
      refine G_aload_n (pc := 5) 0 0 dX3_countKept_5 rfl rfl ?_
      refine G_callVd (pc := 6) gk_X3_40 dX3_countKept_6 (mg_11 (by first | assumption | omega | exact ⟨by omega, by omega⟩ | exact hS _ _ | exact hT _ _)) rfl (c_X3_size (by first | assumption | omega | exact ⟨by omega, by omega⟩ | exact hS _ _ | exact hT _ _) (by first | assumption | omega | exact ⟨by omega, by omega⟩ | exact hS _ _ | exact hT _ _)) rfl rfl (Nat.le_of_ble_eq_true rfl) ⟨⟨Nat.le_of_ble_eq_true rfl, Nat.le_of_ble_eq_true rfl⟩, Nat.le_of_ble_eq_true rfl, Nat.le_of_ble_eq_true rfl⟩ ?_
      refine G_icmp_ge (pc := 9) 32 dX3_countKept_9 (by decide) (by first | exact hS _ _ | exact hT _ _ | exact ⟨by omega, by omega⟩ | assumption) (by first | exact hS _ _ | exact hT _ _ | exact ⟨by omega, by omega⟩ | assumption) (fun c9 => ?_) (fun c9 => ?_)
      · refine G_iload_n (pc := 32) 1 1 dX3_countKept_32 rfl rfl ?_
        exact G_iret_d (pc := 33) hF dX3_countKept_33 ⟨Nat.le_of_ble_eq_true rfl, Nat.le_of_ble_eq_true rfl⟩ (by rw [← hi4.2, sm_end (by omega)]; omega)
      · refine G_aload_n (pc := 12) 0 0 dX3_countKept_12 rfl rfl ?_
        refine G_iload_n (pc := 13) 2 2 dX3_countKept_13 rfl rfl ?_
        refine G_callVd (pc := 14) gk_X3_41 dX3_countKept_14 (mg_11 (by first | assumption | omega | exact ⟨by omega, by omega⟩ | exact hS _ _ | exact hT _ _)) rfl (c_X3_at (by first | assumption | omega | exact ⟨by omega, by omega⟩ | exact hS _ _ | exact hT _ _) (by first | assumption | omega | exact ⟨by omega, by omega⟩ | exact hS _ _ | exact hT _ _) (by first | assumption | omega | exact ⟨by omega, by omega⟩ | exact hS _ _ | exact hT _ _) (by first | assumption | omega | exact ⟨by omega, by omega⟩ | exact hS _ _ | exact hT _ _)) rfl rfl (Nat.le_of_ble_eq_true rfl) ⟨⟨Nat.le_of_ble_eq_true rfl, Nat.le_of_ble_eq_true rfl⟩, Nat.le_of_ble_eq_true rfl, Nat.le_of_ble_eq_true rfl⟩ ?_
        refine G_callVd (pc := 17) gk_X3_62 dX3_countKept_17 (mg_14 (by first | assumption | omega | exact ⟨by omega, by omega⟩ | exact hS _ _ | exact hT _ _)) rfl (c_X2_isKept (by first | assumption | omega | exact ⟨by omega, by omega⟩ | exact hS _ _ | exact hT _ _) (by first | assumption | omega | exact ⟨by omega, by omega⟩ | exact hS _ _ | exact hT _ _) (by first | assumption | omega | exact ⟨by omega, by omega⟩ | exact hS _ _ | exact hT _ _) (by first | assumption | omega | exact ⟨by omega, by omega⟩ | exact hS _ _ | exact hT _ _)) rfl rfl (Nat.le_of_ble_eq_true rfl) ⟨⟨Nat.le_of_ble_eq_true rfl, Nat.le_of_ble_eq_true rfl⟩, Nat.le_of_ble_eq_true rfl, Nat.le_of_ble_eq_true rfl⟩ ?_
        refine G_if_eq_b (pc := 20) 26 dX3_countKept_20 (by decide) (fun c20 => ?_) (fun c20 => ?_)
        · refine G_iinc_e (pc := 26) 2 (fun w => [(2, .int (zI w)), (0, .ref (ad (11, t, p, 0))), (1, .int (zI m))]) dX3_countKept_26 rfl (by decide) (fun _ => rfl) (fun v26 e26 => ?_)
          refine G_goto (pc := 29) 4 dX3_countKept_29 (by decide) ?_
          refine G_perm (lv' := [(0, .ref (ad (11, t, p, 0))), (1, .int (zI m)), (2, .int (zI v26))]) [1, 2, 0] rfl ?_
          exact ih4 m v26  ⟨by omega, by rw [← hi4.2, sm_step (a := o) (n := P 2 t p) (by omega), e26]; first | (rw [if_pos c20]; omega) | (rw [if_neg c20]; omega)⟩ (by omega)
        · refine G_iinc_e (pc := 23) 1 (fun w => [(1, .int (zI w)), (0, .ref (ad (11, t, p, 0))), (2, .int (zI o))]) dX3_countKept_23 rfl (by decide) (fun _ => rfl) (fun v23 e23 => ?_)
          refine G_iinc_e (pc := 26) 2 (fun w => [(2, .int (zI w)), (1, .int (zI v23)), (0, .ref (ad (11, t, p, 0)))]) dX3_countKept_26 rfl (by decide) (fun _ => rfl) (fun v26 e26 => ?_)
          refine G_goto (pc := 29) 4 dX3_countKept_29 (by decide) ?_
          refine G_perm (lv' := [(0, .ref (ad (11, t, p, 0))), (1, .int (zI v23)), (2, .int (zI v26))]) [2, 1, 0] rfl ?_
          exact ih4 v23 v26  ⟨by omega, by rw [← hi4.2, sm_step (a := o) (n := P 2 t p) (by omega), e26]; first | (rw [if_pos c20]; omega) | (rw [if_neg c20]; omega)⟩ (by omega)
  refine G_perm (lv' := [(0, .ref (ad (11, t, p, 0))), (1, .int (zI v1)), (2, .int (zI v3))]) [2, 1, 0] rfl ?_
  exact L4 _ v1 v3  ⟨by omega, by subst e1 e3; exact Int.zero_add _⟩ (Nat.lt_succ_self _)
set_option maxHeartbeats 4000000 in
set_option maxRecDepth 100000 in
theorem c_X2_tell {l : Launch} {Δ : zDl} {ad : zK → Nat} {P : zP} {S : zS} {X : zMem} {t p o w : Int} (ht : 0 ≤ t ∧ t < P 0 0 0) (hp : 0 ≤ p ∧ p < P 1 t 0) (ho : 0 ≤ o ∧ o < P 2 t p) (hS : ∀ k f, zR (S k f)) (hw : 0 ≤ w ∧ w ≤ 4) : zMn l Δ yX2_tell cX2_tell 2 (some .int) 1 0 0 [.ref (ad (14, t, p, o)), .int (zI w)] ad (mm Δ ad P S X) (zD (some (.int (zI (ztl S t p o w)))) ad (mm Δ ad P S X)) := by
  refine zMn_of (by decide) (Nat.le_of_ble_eq_true rfl) (fun Γ hl hΔ hF => ?_)
  subst hl hΔ
  show G Γ _ _ _ RX2 _ _ _ _ _ [(0, .ref (ad (14, t, p, o))), (1, .int (zI w))] []
  refine G_iload_n (pc := 0) 1 1 dX2_tell_0 rfl rfl ?_
  rcases (show w = 0 ∨ w = 1 ∨ w = 2 ∨ w = 3 ∨ w = 4 by omega) with rfl | rfl | rfl | rfl | rfl
  · refine G_tabIn (pc := 1) 32 dX2_tell_1 ⟨by omega, by omega⟩ ⟨by omega, by omega⟩ rfl (by decide) ?_
    refine G_aload_n (pc := 32) 0 0 dX2_tell_32 rfl rfl ?_
    refine G_getf (pc := 33) fl_X2_15 dX2_tell_33 (mg_14 (by first | assumption | omega | exact ⟨by omega, by omega⟩ | exact hS _ _ | exact hT _ _)) rfl ?_
    exact G_iret_d (pc := 36) hF dX2_tell_36 ⟨Nat.le_of_ble_eq_true rfl, Nat.le_of_ble_eq_true rfl⟩ (by first | rfl | (simp [ztl, c56]) | (simp [ztl]))
  · refine G_tabIn (pc := 1) 37 dX2_tell_1 ⟨by omega, by omega⟩ ⟨by omega, by omega⟩ rfl (by decide) ?_
    refine G_aload_n (pc := 37) 0 0 dX2_tell_37 rfl rfl ?_
    refine G_getf (pc := 38) fl_X2_19 dX2_tell_38 (mg_14 (by first | assumption | omega | exact ⟨by omega, by omega⟩ | exact hS _ _ | exact hT _ _)) rfl ?_
    exact G_iret_d (pc := 41) hF dX2_tell_41 ⟨Nat.le_of_ble_eq_true rfl, Nat.le_of_ble_eq_true rfl⟩ (by first | rfl | (simp [ztl, c56]) | (simp [ztl]))
  · refine G_tabIn (pc := 1) 42 dX2_tell_1 ⟨by omega, by omega⟩ ⟨by omega, by omega⟩ rfl (by decide) ?_
    refine G_aload_n (pc := 42) 0 0 dX2_tell_42 rfl rfl ?_
    refine G_getf (pc := 43) fl_X2_22 dX2_tell_43 (mg_14 (by first | assumption | omega | exact ⟨by omega, by omega⟩ | exact hS _ _ | exact hT _ _)) rfl ?_
    exact G_iret_d (pc := 46) hF dX2_tell_46 ⟨Nat.le_of_ble_eq_true rfl, Nat.le_of_ble_eq_true rfl⟩ (by first | rfl | (simp [ztl, c56]) | (simp [ztl]))
  · refine G_tabIn (pc := 1) 47 dX2_tell_1 ⟨by omega, by omega⟩ ⟨by omega, by omega⟩ rfl (by decide) ?_
    refine G_aload_n (pc := 47) 0 0 dX2_tell_47 rfl rfl ?_
    refine G_getf (pc := 48) fl_X2_28 dX2_tell_48 (mg_14 (by first | assumption | omega | exact ⟨by omega, by omega⟩ | exact hS _ _ | exact hT _ _)) rfl ?_
    exact G_iret_d (pc := 51) hF dX2_tell_51 ⟨Nat.le_of_ble_eq_true rfl, Nat.le_of_ble_eq_true rfl⟩ (by first | rfl | (simp [ztl, c56]) | (simp [ztl]))
  · refine G_tabOut (pc := 1) 52 dX2_tell_1 ⟨by omega, by omega⟩ (by omega) (by decide) ?_
    refine G_aload_n (pc := 52) 0 0 dX2_tell_52 rfl rfl ?_
    refine G_getf (pc := 53) fl_X2_9 dX2_tell_53 (mg_14 (by first | assumption | omega | exact ⟨by omega, by omega⟩ | exact hS _ _ | exact hT _ _)) rfl ?_
    refine G_if_eq (pc := 56) 63 dX2_tell_56 (by decide) (by first | exact hS _ _ | exact hT _ _ | exact ⟨by omega, by omega⟩ | assumption) (fun c56 => ?_) (fun c56 => ?_)
    · refine G_iconst (pc := 63) dX2_tell_63 ?_
      exact G_iret_d (pc := 64) hF dX2_tell_64 ⟨Nat.le_of_ble_eq_true rfl, Nat.le_of_ble_eq_true rfl⟩ (by first | rfl | (simp [ztl, c56]) | (simp [ztl]))
    · refine G_iconst (pc := 59) dX2_tell_59 ?_
      refine G_goto (pc := 60) 64 dX2_tell_60 (by decide) ?_
      exact G_iret_d (pc := 64) hF dX2_tell_64 ⟨Nat.le_of_ble_eq_true rfl, Nat.le_of_ble_eq_true rfl⟩ (by first | rfl | (simp [ztl, c56]) | (simp [ztl]))
set_option maxHeartbeats 4000000 in
set_option maxRecDepth 100000 in
theorem c_X3_settlePending {l : Launch} {Δ : zDl} {ad : zK → Nat} {P : zP} {S : zS} {X : zMem} {t p x y : Int} (hP : zWP P) (ht : 0 ≤ t ∧ t < P 0 0 0) (hp : 0 ≤ p ∧ p < P 1 t 0) (hS : ∀ k f, zR (S k f)) (hx : zR x) (hy : zR y) : zMn l Δ yX3_settlePending cX3_settlePending 6 (some .int) 5 0 0 [.ref (ad (11, t, p, 0)), .int (zI x), .int (zI y)] ad (mm Δ ad P S X) (zD (some (.int (zI ((lp (zsp t p x y) 0 (P 2 t p) (S, 0)).2)))) ad (mm Δ ad P ((lp (zsp t p x y) 0 (P 2 t p) (S, 0)).1) X)) := by
  refine zMn_of (by decide) (Nat.le_of_ble_eq_true rfl) (fun Γ hl hΔ hF => ?_)
  subst hl hΔ
  show G Γ _ _ _ RX3 _ _ _ _ _ [(0, .ref (ad (11, t, p, 0))), (1, .int (zI x)), (2, .int (zI y))] []
  have hM := hP.m ht hp
  refine G_iconst (pc := 0) dX3_settlePending_0 ?_
  refine G_istore_ne (pc := 1) 3 (fun w => [(3, .int (zI w)), (0, .ref (ad (11, t, p, 0))), (1, .int (zI x)), (2, .int (zI y))]) dX3_settlePending_1 rfl (by decide) (fun _ => rfl) (fun v1 e1 => ?_)
  refine G_iconst (pc := 2) dX3_settlePending_2 ?_
  refine G_istore_e (pc := 3) (fun w => [(4, .int (zI w)), (3, .int (zI v1)), (0, .ref (ad (11, t, p, 0))), (1, .int (zI x)), (2, .int (zI y))]) dX3_settlePending_3 (by decide) (fun _ => rfl) (fun v3 e3 => ?_)
  have L5 : ∀ (n : Nat) (m : Int) (o : Int) (T : zS), ((0 ≤ o ∧ o ≤ P 2 t p ∧ 0 ≤ m ∧ m ≤ o) ∧ lp (zsp t p x y) o (P 2 t p) (T, m) = lp (zsp t p x y) 0 (P 2 t p) (S, 0) ∧ ∀ k f, zR (T k f)) → (P 2 t p - o).toNat < n → G Γ (zRm 5 0 0) cX3_settlePending 6 RX3 ad (mm (z_d Γ) ad P T X) 0 0 5 [(0, .ref (ad (11, t, p, 0))), (1, .int (zI x)), (2, .int (zI y)), (3, .int (zI m)), (4, .int (zI o))] [] := by
    intro n
    induction n with
    | zero => intro m o T _ hn; omega
    | succ n ih5 =>
      intro m o T hi5 hn5
      have hT := hi5.2.2
      refine G_iload (pc := 5) 4 dX3_settlePending_5 rfl ?_
      refine G_aload_n (pc := 7) 0 0 dX3_settlePending_7 rfl rfl ?_
      refine G_callVd (pc := 8) gk_X3_40 dX3_settlePending_8 (mg_11 (by first | assumption | omega | exact ⟨by omega, by omega⟩ | exact hS _ _ | exact hT _ _)) rfl (c_X3_size (by first | assumption | omega | exact ⟨by omega, by omega⟩ | exact hS _ _ | exact hT _ _) (by first | assumption | omega | exact ⟨by omega, by omega⟩ | exact hS _ _ | exact hT _ _)) rfl rfl (Nat.le_of_ble_eq_true rfl) ⟨⟨Nat.le_of_ble_eq_true rfl, Nat.le_of_ble_eq_true rfl⟩, Nat.le_of_ble_eq_true rfl, Nat.le_of_ble_eq_true rfl⟩ ?_
      refine G_icmp_ge (pc := 11) 55 dX3_settlePending_11 (by decide) (by first | exact hS _ _ | exact hT _ _ | exact ⟨by omega, by omega⟩ | assumption) (by first | exact hS _ _ | exact hT _ _ | exact ⟨by omega, by omega⟩ | assumption) (fun c11 => ?_) (fun c11 => ?_)
      · refine G_iload_n (pc := 55) 3 3 dX3_settlePending_55 rfl rfl ?_
        exact G_iret_m (pc := 56) hF dX3_settlePending_56 ⟨Nat.le_of_ble_eq_true rfl, Nat.le_of_ble_eq_true rfl⟩ (by rw [← hi5.2.1, lp_end (by omega)]) (by rw [← hi5.2.1, lp_end (by omega)])
      · refine G_aload_n (pc := 14) 0 0 dX3_settlePending_14 rfl rfl ?_
        refine G_iload (pc := 15) 4 dX3_settlePending_15 rfl ?_
        refine G_callVd (pc := 17) gk_X3_41 dX3_settlePending_17 (mg_11 (by first | assumption | omega | exact ⟨by omega, by omega⟩ | exact hS _ _ | exact hT _ _)) rfl (c_X3_at (by first | assumption | omega | exact ⟨by omega, by omega⟩ | exact hS _ _ | exact hT _ _) (by first | assumption | omega | exact ⟨by omega, by omega⟩ | exact hS _ _ | exact hT _ _) (by first | assumption | omega | exact ⟨by omega, by omega⟩ | exact hS _ _ | exact hT _ _) (by first | assumption | omega | exact ⟨by omega, by omega⟩ | exact hS _ _ | exact hT _ _)) rfl rfl (Nat.le_of_ble_eq_true rfl) ⟨⟨Nat.le_of_ble_eq_true rfl, Nat.le_of_ble_eq_true rfl⟩, Nat.le_of_ble_eq_true rfl, Nat.le_of_ble_eq_true rfl⟩ ?_
        refine G_astore (pc := 20) [(5, .ref (ad (14, t, p, o))), (0, .ref (ad (11, t, p, 0))), (1, .int (zI x)), (2, .int (zI y)), (3, .int (zI m)), (4, .int (zI o))] dX3_settlePending_20 (by decide) rfl ?_
        refine G_aload (pc := 22) 0 dX3_settlePending_22 rfl ?_
        refine G_getf (pc := 24) fl_X3_45 dX3_settlePending_24 (mg_14 (by first | assumption | omega | exact ⟨by omega, by omega⟩ | exact hS _ _ | exact hT _ _)) rfl ?_
        refine G_iconst (pc := 27) dX3_settlePending_27 ?_
        refine G_icmp_ne (pc := 28) 49 dX3_settlePending_28 (by decide) (by first | exact hS _ _ | exact hT _ _ | exact ⟨by omega, by omega⟩ | assumption) (by first | exact hS _ _ | exact hT _ _ | exact ⟨by omega, by omega⟩ | assumption) (fun c28 => ?_) (fun c28 => ?_)
        · refine G_iinc_e (pc := 49) 5 (fun w => [(4, .int (zI w)), (5, .ref (ad (14, t, p, o))), (0, .ref (ad (11, t, p, 0))), (1, .int (zI x)), (2, .int (zI y)), (3, .int (zI m))]) dX3_settlePending_49 rfl (by decide) (fun _ => rfl) (fun v49 e49 => ?_)
          refine G_goto (pc := 52) 5 dX3_settlePending_52 (by decide) ?_
          refine G_perm (lv' := [(0, .ref (ad (11, t, p, 0))), (1, .int (zI x)), (2, .int (zI y)), (3, .int (zI m)), (4, .int (zI v49))]) [2, 3, 4, 5, 0] rfl ?_
          exact ih5 m v49 T ⟨by omega, by rw [e49, ← hi5.2.1, lp_step (a := o) (n := P 2 t p) (by omega)]; first | (rw [show (zsp t p x y) o (T, m) = (T, v46) by rw [hT, e46]; exact if_pos (c := T (14, t, p, o) 4 = 2 ∧ T (14, t, p, o) 3 = x) (by first | assumption | exact ⟨by omega, by omega⟩ | omega)]) | (rw [show (zsp t p x y) o (T, m) = (T, m) from if_neg (c := T (14, t, p, o) 4 = 2 ∧ T (14, t, p, o) 3 = x) (by first | assumption | omega)]), by first | exact hT | (rw [hT]; exact zst_R hT hy)⟩ (by omega)
        · refine G_aload (pc := 31) 0 dX3_settlePending_31 rfl ?_
          refine G_getf (pc := 33) fl_X3_48 dX3_settlePending_33 (mg_14 (by first | assumption | omega | exact ⟨by omega, by omega⟩ | exact hS _ _ | exact hT _ _)) rfl ?_
          refine G_iload_n (pc := 36) 1 2 dX3_settlePending_36 rfl rfl ?_
          refine G_icmp_ne (pc := 37) 49 dX3_settlePending_37 (by decide) (by first | exact hS _ _ | exact hT _ _ | exact ⟨by omega, by omega⟩ | assumption) (by first | exact hS _ _ | exact hT _ _ | exact ⟨by omega, by omega⟩ | assumption) (fun c37 => ?_) (fun c37 => ?_)
          · refine G_iinc_e (pc := 49) 5 (fun w => [(4, .int (zI w)), (5, .ref (ad (14, t, p, o))), (0, .ref (ad (11, t, p, 0))), (1, .int (zI x)), (2, .int (zI y)), (3, .int (zI m))]) dX3_settlePending_49 rfl (by decide) (fun _ => rfl) (fun v49 e49 => ?_)
            refine G_goto (pc := 52) 5 dX3_settlePending_52 (by decide) ?_
            refine G_perm (lv' := [(0, .ref (ad (11, t, p, 0))), (1, .int (zI x)), (2, .int (zI y)), (3, .int (zI m)), (4, .int (zI v49))]) [2, 3, 4, 5, 0] rfl ?_
            exact ih5 m v49 T ⟨by omega, by rw [e49, ← hi5.2.1, lp_step (a := o) (n := P 2 t p) (by omega)]; first | (rw [show (zsp t p x y) o (T, m) = (T, v46) by rw [hT, e46]; exact if_pos (c := T (14, t, p, o) 4 = 2 ∧ T (14, t, p, o) 3 = x) (by first | assumption | exact ⟨by omega, by omega⟩ | omega)]) | (rw [show (zsp t p x y) o (T, m) = (T, m) from if_neg (c := T (14, t, p, o) 4 = 2 ∧ T (14, t, p, o) 3 = x) (by first | assumption | omega)]), by first | exact hT | (rw [hT]; exact zst_R hT hy)⟩ (by omega)
          · refine G_aload (pc := 40) 0 dX3_settlePending_40 rfl ?_
            refine G_iload_n (pc := 42) 2 3 dX3_settlePending_42 rfl rfl ?_
            refine G_putf (pc := 43) fl_X3_45 fp_X2_4 dX3_settlePending_43 (mg_14 (by first | assumption | omega | exact ⟨by omega, by omega⟩ | exact hS _ _ | exact hT _ _)) (Nat.le_of_ble_eq_true rfl) rfl rfl (mp_14_4 _ (by first | assumption | omega | exact ⟨by omega, by omega⟩ | exact hS _ _ | exact hT _ _)) ?_
            refine G_name (fun S1_43 hS1_43 => ?_)
            refine G_iinc_e (pc := 46) 4 (fun w => [(3, .int (zI w)), (5, .ref (ad (14, t, p, o))), (0, .ref (ad (11, t, p, 0))), (1, .int (zI x)), (2, .int (zI y)), (4, .int (zI o))]) dX3_settlePending_46 rfl (by decide) (fun _ => rfl) (fun v46 e46 => ?_)
            refine G_iinc_e (pc := 49) 5 (fun w => [(4, .int (zI w)), (3, .int (zI v46)), (5, .ref (ad (14, t, p, o))), (0, .ref (ad (11, t, p, 0))), (1, .int (zI x)), (2, .int (zI y))]) dX3_settlePending_49 rfl (by decide) (fun _ => rfl) (fun v49 e49 => ?_)
            refine G_goto (pc := 52) 5 dX3_settlePending_52 (by decide) ?_
            refine G_perm (lv' := [(0, .ref (ad (11, t, p, 0))), (1, .int (zI x)), (2, .int (zI y)), (3, .int (zI v46)), (4, .int (zI v49))]) [3, 4, 5, 1, 0] rfl ?_
            exact ih5 v46 v49 S1_43 ⟨by omega, by rw [e49, ← hi5.2.1, lp_step (a := o) (n := P 2 t p) (by omega)]; first | (rw [show (zsp t p x y) o (T, m) = (S1_43, v46) by rw [hS1_43, e46]; exact if_pos (c := T (14, t, p, o) 4 = 2 ∧ T (14, t, p, o) 3 = x) (by first | assumption | exact ⟨by omega, by omega⟩ | omega)]) | (rw [show (zsp t p x y) o (T, m) = (T, m) from if_neg (c := T (14, t, p, o) 4 = 2 ∧ T (14, t, p, o) 3 = x) (by first | assumption | omega)]), by first | exact hT | (rw [hS1_43]; exact zst_R hT hy)⟩ (by omega)
  refine G_perm (lv' := [(0, .ref (ad (11, t, p, 0))), (1, .int (zI x)), (2, .int (zI y)), (3, .int (zI v1)), (4, .int (zI v3))]) [2, 3, 4, 1, 0] rfl ?_
  exact L5 _ v1 v3 S ⟨by omega, by subst e1 e3; rfl, hS⟩ (Nat.lt_succ_self _)
set_option maxHeartbeats 4000000 in
set_option maxRecDepth 100000 in
theorem c_X3_isOutdated {l : Launch} {Δ : zDl} {ad : zK → Nat} {P : zP} {S : zS} {X : zMem} {t p o e : Int} (hP : zWP P) (ht : 0 ≤ t ∧ t < P 0 0 0) (hp : 0 ≤ p ∧ p < P 1 t 0) (ho : 0 ≤ o ∧ o < P 2 t p) (hS : ∀ k f, zR (S k f)) (he : 0 ≤ e ∧ e ≤ P 2 t p) : zMn l Δ yX3_isOutdated cX3_isOutdated 5 (some .boolean) 5 0 0 [.ref (ad (11, t, p, 0)), .int (zI o), .int (zI e)] ad (mm Δ ad P S X) (zD (some (.int (zI (if zod S t p o e then 1 else 0)))) ad (mm Δ ad P S X)) := by
  refine zMn_of (by decide) (Nat.le_of_ble_eq_true rfl) (fun Γ hl hΔ hF => ?_)
  subst hl hΔ
  show G Γ _ _ _ RX3 _ _ _ _ _ [(0, .ref (ad (11, t, p, 0))), (1, .int (zI o)), (2, .int (zI e))] []
  have hM := hP.m ht hp
  refine G_aload_n (pc := 0) 0 0 dX3_isOutdated_0 rfl rfl ?_
  refine G_iload_n (pc := 1) 1 1 dX3_isOutdated_1 rfl rfl ?_
  refine G_callVd (pc := 2) gk_X3_41 dX3_isOutdated_2 (mg_11 (by first | assumption | omega | exact ⟨by omega, by omega⟩ | exact hS _ _ | exact hT _ _)) rfl (c_X3_at (by first | assumption | omega | exact ⟨by omega, by omega⟩ | exact hS _ _ | exact hT _ _) (by first | assumption | omega | exact ⟨by omega, by omega⟩ | exact hS _ _ | exact hT _ _) (by first | assumption | omega | exact ⟨by omega, by omega⟩ | exact hS _ _ | exact hT _ _) (by first | assumption | omega | exact ⟨by omega, by omega⟩ | exact hS _ _ | exact hT _ _)) rfl rfl (Nat.le_of_ble_eq_true rfl) ⟨⟨Nat.le_of_ble_eq_true rfl, Nat.le_of_ble_eq_true rfl⟩, Nat.le_of_ble_eq_true rfl, Nat.le_of_ble_eq_true rfl⟩ ?_
  refine G_astore_n (pc := 5) 3 [(3, .ref (ad (14, t, p, o))), (0, .ref (ad (11, t, p, 0))), (1, .int (zI o)), (2, .int (zI e))] dX3_isOutdated_5 rfl (by decide) rfl ?_
  refine G_aload_n (pc := 6) 3 0 dX3_isOutdated_6 rfl rfl ?_
  refine G_callVd (pc := 7) gk_X3_62 dX3_isOutdated_7 (mg_14 (by first | assumption | omega | exact ⟨by omega, by omega⟩ | exact hS _ _ | exact hT _ _)) rfl (c_X2_isKept (by first | assumption | omega | exact ⟨by omega, by omega⟩ | exact hS _ _ | exact hT _ _) (by first | assumption | omega | exact ⟨by omega, by omega⟩ | exact hS _ _ | exact hT _ _) (by first | assumption | omega | exact ⟨by omega, by omega⟩ | exact hS _ _ | exact hT _ _) (by first | assumption | omega | exact ⟨by omega, by omega⟩ | exact hS _ _ | exact hT _ _)) rfl rfl (Nat.le_of_ble_eq_true rfl) ⟨⟨Nat.le_of_ble_eq_true rfl, Nat.le_of_ble_eq_true rfl⟩, Nat.le_of_ble_eq_true rfl, Nat.le_of_ble_eq_true rfl⟩ ?_
  refine G_if_eq_b (pc := 10) 21 dX3_isOutdated_10 (by decide) (fun c10 => ?_) (fun c10 => ?_)
  · refine G_iconst (pc := 21) dX3_isOutdated_21 ?_
    exact G_zret_d (pc := 22) hF dX3_isOutdated_22 ⟨Nat.le_of_ble_eq_true rfl, Nat.le_of_ble_eq_true rfl⟩ (by first | exact zb_ite | omega) (by first | exact (if_neg (fun h => c10 h.1)).symm | exact (if_neg (fun h => h.2.1 (by assumption))).symm)
  · refine G_aload_n (pc := 13) 3 0 dX3_isOutdated_13 rfl rfl ?_
    refine G_getf (pc := 14) fl_X3_73 dX3_isOutdated_14 (mg_14 (by first | assumption | omega | exact ⟨by omega, by omega⟩ | exact hS _ _ | exact hT _ _)) rfl ?_
    refine G_iconst (pc := 17) dX3_isOutdated_17 ?_
    refine G_icmp_ne (pc := 18) 23 dX3_isOutdated_18 (by decide) (by first | exact hS _ _ | exact hT _ _ | exact ⟨by omega, by omega⟩ | assumption) (by first | exact hS _ _ | exact hT _ _ | exact ⟨by omega, by omega⟩ | assumption) (fun c18 => ?_) (fun c18 => ?_)
    · refine G_iload_n (pc := 23) 1 2 dX3_isOutdated_23 rfl rfl ?_
      refine G_iconst (pc := 24) dX3_isOutdated_24 ?_
      refine G_iadd (pc := 25) dX3_isOutdated_25 ?_
      refine G_istore_e (pc := 26) (fun w => [(4, .int (zI w)), (3, .ref (ad (14, t, p, o))), (0, .ref (ad (11, t, p, 0))), (1, .int (zI o)), (2, .int (zI e))]) dX3_isOutdated_26 (by decide) (fun _ => rfl) (fun v26 e26 => ?_)
      have L28 : ∀ (n : Nat) (q : Int), ((o + 1 ≤ q ∧ (q ≤ e ∨ q = o + 1)) ∧ fi (fun q => S (14, t, p, q) 4 = 0 ∧ S (14, t, p, q) 0 = S (14, t, p, o) 0) q e = fi (fun q => S (14, t, p, q) 4 = 0 ∧ S (14, t, p, q) 0 = S (14, t, p, o) 0) (o + 1) e) → (e - q).toNat < n → G Γ (zRm 5 0 0) cX3_isOutdated 5 RX3 ad (mm (z_d Γ) ad P S X) 0 0 28 [(0, .ref (ad (11, t, p, 0))), (1, .int (zI o)), (2, .int (zI e)), (3, .ref (ad (14, t, p, o))), (4, .int (zI q))] [] := by
        intro n
        induction n with
        | zero => intro q _ hn; omega
        | succ n ih28 =>
          intro q hi28 hn28
          refine G_iload (pc := 28) 4 dX3_isOutdated_28 rfl ?_
          refine G_iload_n (pc := 30) 2 2 dX3_isOutdated_30 rfl rfl ?_
          refine G_icmp_ge (pc := 31) 70 dX3_isOutdated_31 (by decide) (by first | exact hS _ _ | exact hT _ _ | exact ⟨by omega, by omega⟩ | assumption) (by first | exact hS _ _ | exact hT _ _ | exact ⟨by omega, by omega⟩ | assumption) (fun c31 => ?_) (fun c31 => ?_)
          · refine G_iconst (pc := 70) dX3_isOutdated_70 ?_
            exact G_zret_d (pc := 71) hF dX3_isOutdated_71 ⟨Nat.le_of_ble_eq_true rfl, Nat.le_of_ble_eq_true rfl⟩ (by first | exact zb_ite | omega) (if_neg (c := zod S t p o e) (fun h => by have h2 : _ < e := h.2.2; rw [← hi28.2, fi_end (by omega)] at h2; omega)).symm
          · refine G_aload_n (pc := 34) 0 0 dX3_isOutdated_34 rfl rfl ?_
            refine G_iload (pc := 35) 4 dX3_isOutdated_35 rfl ?_
            refine G_callVd (pc := 37) gk_X3_41 dX3_isOutdated_37 (mg_11 (by first | assumption | omega | exact ⟨by omega, by omega⟩ | exact hS _ _ | exact hT _ _)) rfl (c_X3_at (by first | assumption | omega | exact ⟨by omega, by omega⟩ | exact hS _ _ | exact hT _ _) (by first | assumption | omega | exact ⟨by omega, by omega⟩ | exact hS _ _ | exact hT _ _) (by first | assumption | omega | exact ⟨by omega, by omega⟩ | exact hS _ _ | exact hT _ _) (by first | assumption | omega | exact ⟨by omega, by omega⟩ | exact hS _ _ | exact hT _ _)) rfl rfl (Nat.le_of_ble_eq_true rfl) ⟨⟨Nat.le_of_ble_eq_true rfl, Nat.le_of_ble_eq_true rfl⟩, Nat.le_of_ble_eq_true rfl, Nat.le_of_ble_eq_true rfl⟩ ?_
            refine G_getf (pc := 40) fl_X3_45 dX3_isOutdated_40 (mg_14 (by first | assumption | omega | exact ⟨by omega, by omega⟩ | exact hS _ _ | exact hT _ _)) rfl ?_
            refine G_if_ne (pc := 43) 64 dX3_isOutdated_43 (by decide) (by first | exact hS _ _ | exact hT _ _ | exact ⟨by omega, by omega⟩ | assumption) (fun c43 => ?_) (fun c43 => ?_)
            · refine G_iinc_e (pc := 64) 4 (fun w => [(4, .int (zI w)), (0, .ref (ad (11, t, p, 0))), (1, .int (zI o)), (2, .int (zI e)), (3, .ref (ad (14, t, p, o)))]) dX3_isOutdated_64 rfl (by decide) (fun _ => rfl) (fun v64 e64 => ?_)
              refine G_goto (pc := 67) 28 dX3_isOutdated_67 (by decide) ?_
              refine G_perm (lv' := [(0, .ref (ad (11, t, p, 0))), (1, .int (zI o)), (2, .int (zI e)), (3, .ref (ad (14, t, p, o))), (4, .int (zI v64))]) [1, 2, 3, 4, 0] rfl ?_
              exact ih28 v64  ⟨by omega, by rw [e64, ← hi28.2]; exact (fi_miss (a := q) (n := e) (by omega) (by omega)).symm⟩ (by omega)
            · refine G_aload_n (pc := 46) 0 0 dX3_isOutdated_46 rfl rfl ?_
              refine G_iload (pc := 47) 4 dX3_isOutdated_47 rfl ?_
              refine G_callVd (pc := 49) gk_X3_41 dX3_isOutdated_49 (mg_11 (by first | assumption | omega | exact ⟨by omega, by omega⟩ | exact hS _ _ | exact hT _ _)) rfl (c_X3_at (by first | assumption | omega | exact ⟨by omega, by omega⟩ | exact hS _ _ | exact hT _ _) (by first | assumption | omega | exact ⟨by omega, by omega⟩ | exact hS _ _ | exact hT _ _) (by first | assumption | omega | exact ⟨by omega, by omega⟩ | exact hS _ _ | exact hT _ _) (by first | assumption | omega | exact ⟨by omega, by omega⟩ | exact hS _ _ | exact hT _ _)) rfl rfl (Nat.le_of_ble_eq_true rfl) ⟨⟨Nat.le_of_ble_eq_true rfl, Nat.le_of_ble_eq_true rfl⟩, Nat.le_of_ble_eq_true rfl, Nat.le_of_ble_eq_true rfl⟩ ?_
              refine G_getf (pc := 52) fl_X3_73 dX3_isOutdated_52 (mg_14 (by first | assumption | omega | exact ⟨by omega, by omega⟩ | exact hS _ _ | exact hT _ _)) rfl ?_
              refine G_aload_n (pc := 55) 3 3 dX3_isOutdated_55 rfl rfl ?_
              refine G_getf (pc := 56) fl_X3_73 dX3_isOutdated_56 (mg_14 (by first | assumption | omega | exact ⟨by omega, by omega⟩ | exact hS _ _ | exact hT _ _)) rfl ?_
              refine G_icmp_ne (pc := 59) 64 dX3_isOutdated_59 (by decide) (by first | exact hS _ _ | exact hT _ _ | exact ⟨by omega, by omega⟩ | assumption) (by first | exact hS _ _ | exact hT _ _ | exact ⟨by omega, by omega⟩ | assumption) (fun c59 => ?_) (fun c59 => ?_)
              · refine G_iinc_e (pc := 64) 4 (fun w => [(4, .int (zI w)), (0, .ref (ad (11, t, p, 0))), (1, .int (zI o)), (2, .int (zI e)), (3, .ref (ad (14, t, p, o)))]) dX3_isOutdated_64 rfl (by decide) (fun _ => rfl) (fun v64 e64 => ?_)
                refine G_goto (pc := 67) 28 dX3_isOutdated_67 (by decide) ?_
                refine G_perm (lv' := [(0, .ref (ad (11, t, p, 0))), (1, .int (zI o)), (2, .int (zI e)), (3, .ref (ad (14, t, p, o))), (4, .int (zI v64))]) [1, 2, 3, 4, 0] rfl ?_
                exact ih28 v64  ⟨by omega, by rw [e64, ← hi28.2]; exact (fi_miss (a := q) (n := e) (by omega) (by omega)).symm⟩ (by omega)
              · refine G_iconst (pc := 62) dX3_isOutdated_62 ?_
                exact G_zret_d (pc := 63) hF dX3_isOutdated_63 ⟨Nat.le_of_ble_eq_true rfl, Nat.le_of_ble_eq_true rfl⟩ (by first | exact zb_ite | omega) (if_pos (c := zod S t p o e) ⟨by assumption, by assumption, by show _ < e; rw [← hi28.2, fi_hit (a := q) (n := e) (by omega) ⟨by omega, by omega⟩]; omega⟩).symm
      refine G_perm (lv' := [(0, .ref (ad (11, t, p, 0))), (1, .int (zI o)), (2, .int (zI e)), (3, .ref (ad (14, t, p, o))), (4, .int (zI v26))]) [2, 3, 4, 1, 0] rfl ?_
      exact L28 _ v26  ⟨by omega, by rw [e26]⟩ (Nat.lt_succ_self _)
    · refine G_iconst (pc := 21) dX3_isOutdated_21 ?_
      exact G_zret_d (pc := 22) hF dX3_isOutdated_22 ⟨Nat.le_of_ble_eq_true rfl, Nat.le_of_ble_eq_true rfl⟩ (by first | exact zb_ite | omega) (by first | exact (if_neg (fun h => c10 h.1)).symm | exact (if_neg (fun h => h.2.1 (by assumption))).symm)
set_option maxHeartbeats 4000000 in
set_option maxRecDepth 100000 in
theorem c_X3_countOutdated {l : Launch} {Δ : zDl} {ad : zK → Nat} {P : zP} {S : zS} {X : zMem} {t p : Int} (hP : zWP P) (ht : 0 ≤ t ∧ t < P 0 0 0) (hp : 0 ≤ p ∧ p < P 1 t 0) (hS : ∀ k f, zR (S k f)) : zMn l Δ yX3_countOutdated cX3_countOutdated 4 (some .int) 6 0 0 [.ref (ad (11, t, p, 0))] ad (mm Δ ad P S X) (zD (some (.int (zI (sm (fun o => if zod S t p o (zse P S t p) then 1 else 0) 0 (zse P S t p))))) ad (mm Δ ad P S X)) := by
  refine zMn_of (by decide) (Nat.le_of_ble_eq_true rfl) (fun Γ hl hΔ hF => ?_)
  subst hl hΔ
  show G Γ _ _ _ RX3 _ _ _ _ _ [(0, .ref (ad (11, t, p, 0)))] []
  have hM := hP.m ht hp
  have hE := fi_le (Q := fun o => S (14, t, p, o) 4 = 2) (a := 0) (n := P 2 t p) hM.1
  have hE : 0 ≤ zse P S t p ∧ zse P S t p ≤ P 2 t p := hE
  refine G_aload_n (pc := 0) 0 0 dX3_countOutdated_0 rfl rfl ?_
  refine G_callVd (pc := 1) gk_X3_66 dX3_countOutdated_1 (mg_11 (by first | assumption | omega | exact ⟨by omega, by omega⟩ | exact hS _ _ | exact hT _ _)) rfl (c_X3_stableEnd (by first | assumption | omega | exact ⟨by omega, by omega⟩ | exact hS _ _ | exact hT _ _) (by first | assumption | omega | exact ⟨by omega, by omega⟩ | exact hS _ _ | exact hT _ _) (by first | assumption | omega | exact ⟨by omega, by omega⟩ | exact hS _ _ | exact hT _ _) (by first | assumption | omega | exact ⟨by omega, by omega⟩ | exact hS _ _ | exact hT _ _)) rfl rfl (Nat.le_of_ble_eq_true rfl) ⟨⟨Nat.le_of_ble_eq_true rfl, Nat.le_of_ble_eq_true rfl⟩, Nat.le_of_ble_eq_true rfl, Nat.le_of_ble_eq_true rfl⟩ ?_
  refine G_istore_ne (pc := 4) 1 (fun w => [(1, .int (zI w)), (0, .ref (ad (11, t, p, 0)))]) dX3_countOutdated_4 rfl (by decide) (fun _ => rfl) (fun v4 e4 => ?_)
  refine G_iconst (pc := 5) dX3_countOutdated_5 ?_
  refine G_istore_ne (pc := 6) 2 (fun w => [(2, .int (zI w)), (1, .int (zI v4)), (0, .ref (ad (11, t, p, 0)))]) dX3_countOutdated_6 rfl (by decide) (fun _ => rfl) (fun v6 e6 => ?_)
  refine G_iconst (pc := 7) dX3_countOutdated_7 ?_
  refine G_istore_ne (pc := 8) 3 (fun w => [(3, .int (zI w)), (2, .int (zI v6)), (1, .int (zI v4)), (0, .ref (ad (11, t, p, 0)))]) dX3_countOutdated_8 rfl (by decide) (fun _ => rfl) (fun v8 e8 => ?_)
  have L9 : ∀ (n : Nat) (e : Int) (m : Int) (o : Int), ((e = zse P S t p ∧ 0 ≤ o ∧ o ≤ e ∧ 0 ≤ m ∧ m ≤ o) ∧ m + sm (fun o => if zod S t p o (zse P S t p) then 1 else 0) o (zse P S t p) = sm (fun o => if zod S t p o (zse P S t p) then 1 else 0) 0 (zse P S t p)) → (e - o).toNat < n → G Γ (zRm 6 0 0) cX3_countOutdated 4 RX3 ad (mm (z_d Γ) ad P S X) 0 0 9 [(0, .ref (ad (11, t, p, 0))), (1, .int (zI e)), (2, .int (zI m)), (3, .int (zI o))] [] := by
    intro n
    induction n with
    | zero => intro e m o _ hn; omega
    | succ n ih9 =>
      intro e m o hi9 hn9
      obtain ⟨⟨he, hi9a⟩, hi9b⟩ := hi9
      refine G_iload_n (pc := 9) 3 3 dX3_countOutdated_9 rfl rfl ?_
      refine G_iload_n (pc := 10) 1 1 dX3_countOutdated_10 rfl rfl ?_
      refine G_icmp_ge (pc := 11) 32 dX3_countOutdated_11 (by decide) (by first | exact hS _ _ | exact hT _ _ | exact ⟨by omega, by omega⟩ | assumption) (by first | exact hS _ _ | exact hT _ _ | exact ⟨by omega, by omega⟩ | assumption) (fun c11 => ?_) (fun c11 => ?_)
      · refine G_iload_n (pc := 32) 2 2 dX3_countOutdated_32 rfl rfl ?_
        exact G_iret_d (pc := 33) hF dX3_countOutdated_33 ⟨Nat.le_of_ble_eq_true rfl, Nat.le_of_ble_eq_true rfl⟩ (by rw [← hi9b, sm_end (by omega)]; omega)
      · refine G_aload_n (pc := 14) 0 0 dX3_countOutdated_14 rfl rfl ?_
        refine G_iload_n (pc := 15) 3 3 dX3_countOutdated_15 rfl rfl ?_
        refine G_iload_n (pc := 16) 1 1 dX3_countOutdated_16 rfl rfl ?_
        refine G_callVd (pc := 17) gk_X3_69 dX3_countOutdated_17 (mg_11 (by first | assumption | omega | exact ⟨by omega, by omega⟩ | exact hS _ _ | exact hT _ _)) rfl (c_X3_isOutdated (by first | assumption | omega | exact ⟨by omega, by omega⟩ | exact hS _ _ | exact hT _ _) (by first | assumption | omega | exact ⟨by omega, by omega⟩ | exact hS _ _ | exact hT _ _) (by first | assumption | omega | exact ⟨by omega, by omega⟩ | exact hS _ _ | exact hT _ _) (by first | assumption | omega | exact ⟨by omega, by omega⟩ | exact hS _ _ | exact hT _ _) (by first | assumption | omega | exact ⟨by omega, by omega⟩ | exact hS _ _ | exact hT _ _) (by first | assumption | omega | exact ⟨by omega, by omega⟩ | exact hS _ _ | exact hT _ _)) rfl rfl (Nat.le_of_ble_eq_true rfl) ⟨⟨Nat.le_of_ble_eq_true rfl, Nat.le_of_ble_eq_true rfl⟩, Nat.le_of_ble_eq_true rfl, Nat.le_of_ble_eq_true rfl⟩ ?_
        refine G_if_eq_b (pc := 20) 26 dX3_countOutdated_20 (by decide) (fun c20 => ?_) (fun c20 => ?_)
        · try rw [he] at c20
          refine G_iinc_e (pc := 26) 3 (fun w => [(3, .int (zI w)), (0, .ref (ad (11, t, p, 0))), (1, .int (zI e)), (2, .int (zI m))]) dX3_countOutdated_26 rfl (by decide) (fun _ => rfl) (fun v26 e26 => ?_)
          refine G_goto (pc := 29) 9 dX3_countOutdated_29 (by decide) ?_
          refine G_perm (lv' := [(0, .ref (ad (11, t, p, 0))), (1, .int (zI e)), (2, .int (zI m)), (3, .int (zI v26))]) [1, 2, 3, 0] rfl ?_
          exact ih9 e m v26  ⟨by omega, by rw [← hi9b, sm_step (a := o) (n := zse P S t p) (by omega), e26]; first | (rw [if_pos c20]; omega) | (rw [if_neg c20]; omega)⟩ (by omega)
        · rw [he] at c20
          refine G_iinc_e (pc := 23) 2 (fun w => [(2, .int (zI w)), (0, .ref (ad (11, t, p, 0))), (1, .int (zI e)), (3, .int (zI o))]) dX3_countOutdated_23 rfl (by decide) (fun _ => rfl) (fun v23 e23 => ?_)
          try rw [he] at c20
          refine G_iinc_e (pc := 26) 3 (fun w => [(3, .int (zI w)), (2, .int (zI v23)), (0, .ref (ad (11, t, p, 0))), (1, .int (zI e))]) dX3_countOutdated_26 rfl (by decide) (fun _ => rfl) (fun v26 e26 => ?_)
          refine G_goto (pc := 29) 9 dX3_countOutdated_29 (by decide) ?_
          refine G_perm (lv' := [(0, .ref (ad (11, t, p, 0))), (1, .int (zI e)), (2, .int (zI v23)), (3, .int (zI v26))]) [2, 3, 1, 0] rfl ?_
          exact ih9 e v23 v26  ⟨by omega, by rw [← hi9b, sm_step (a := o) (n := zse P S t p) (by omega), e26]; first | (rw [if_pos c20]; omega) | (rw [if_neg c20]; omega)⟩ (by omega)
  refine G_perm (lv' := [(0, .ref (ad (11, t, p, 0))), (1, .int (zI v4)), (2, .int (zI v6)), (3, .int (zI v8))]) [3, 2, 1, 0] rfl ?_
  exact L9 _ v4 v6 v8  ⟨by omega, by rw [e6, e8]; exact Int.zero_add _⟩ (Nat.lt_succ_self _)
set_option maxHeartbeats 4000000 in
set_option maxRecDepth 100000 in
theorem c_X3_dropOutdated {l : Launch} {Δ : zDl} {ad : zK → Nat} {P : zP} {S : zS} {X : zMem} {t p : Int} (hP : zWP P) (ht : 0 ≤ t ∧ t < P 0 0 0) (hp : 0 ≤ p ∧ p < P 1 t 0) (hS : ∀ k f, zR (S k f)) : zMn l Δ yX3_dropOutdated cX3_dropOutdated 4 (some .int) 6 0 0 [.ref (ad (11, t, p, 0))] ad (mm Δ ad P S X) (zD (some (.int (zI ((lp (zdr t p (zse P S t p)) 0 (zse P S t p) (S, 0)).2)))) ad (mm Δ ad P ((lp (zdr t p (zse P S t p)) 0 (zse P S t p) (S, 0)).1) X)) := by
  refine zMn_of (by decide) (Nat.le_of_ble_eq_true rfl) (fun Γ hl hΔ hF => ?_)
  subst hl hΔ
  show G Γ _ _ _ RX3 _ _ _ _ _ [(0, .ref (ad (11, t, p, 0)))] []
  have hM := hP.m ht hp
  have hE := fi_le (Q := fun o => S (14, t, p, o) 4 = 2) (a := 0) (n := P 2 t p) hM.1
  have hE : 0 ≤ zse P S t p ∧ zse P S t p ≤ P 2 t p := hE
  refine G_aload_n (pc := 0) 0 0 dX3_dropOutdated_0 rfl rfl ?_
  refine G_callVd (pc := 1) gk_X3_66 dX3_dropOutdated_1 (mg_11 (by first | assumption | omega | exact ⟨by omega, by omega⟩ | exact hS _ _ | exact hT _ _)) rfl (c_X3_stableEnd (by first | assumption | omega | exact ⟨by omega, by omega⟩ | exact hS _ _ | exact hT _ _) (by first | assumption | omega | exact ⟨by omega, by omega⟩ | exact hS _ _ | exact hT _ _) (by first | assumption | omega | exact ⟨by omega, by omega⟩ | exact hS _ _ | exact hT _ _) (by first | assumption | omega | exact ⟨by omega, by omega⟩ | exact hS _ _ | exact hT _ _)) rfl rfl (Nat.le_of_ble_eq_true rfl) ⟨⟨Nat.le_of_ble_eq_true rfl, Nat.le_of_ble_eq_true rfl⟩, Nat.le_of_ble_eq_true rfl, Nat.le_of_ble_eq_true rfl⟩ ?_
  refine G_istore_ne (pc := 4) 1 (fun w => [(1, .int (zI w)), (0, .ref (ad (11, t, p, 0)))]) dX3_dropOutdated_4 rfl (by decide) (fun _ => rfl) (fun v4 e4 => ?_)
  refine G_iconst (pc := 5) dX3_dropOutdated_5 ?_
  refine G_istore_ne (pc := 6) 2 (fun w => [(2, .int (zI w)), (1, .int (zI v4)), (0, .ref (ad (11, t, p, 0)))]) dX3_dropOutdated_6 rfl (by decide) (fun _ => rfl) (fun v6 e6 => ?_)
  refine G_iconst (pc := 7) dX3_dropOutdated_7 ?_
  refine G_istore_ne (pc := 8) 3 (fun w => [(3, .int (zI w)), (2, .int (zI v6)), (1, .int (zI v4)), (0, .ref (ad (11, t, p, 0)))]) dX3_dropOutdated_8 rfl (by decide) (fun _ => rfl) (fun v8 e8 => ?_)
  have L9 : ∀ (n : Nat) (e : Int) (m : Int) (o : Int) (T : zS), ((e = zse P S t p ∧ 0 ≤ o ∧ o ≤ e ∧ 0 ≤ m ∧ m ≤ o) ∧ lp (zdr t p (zse P S t p)) o (zse P S t p) (T, m) = lp (zdr t p (zse P S t p)) 0 (zse P S t p) (S, 0) ∧ ∀ k f, zR (T k f)) → (e - o).toNat < n → G Γ (zRm 6 0 0) cX3_dropOutdated 4 RX3 ad (mm (z_d Γ) ad P T X) 0 0 9 [(0, .ref (ad (11, t, p, 0))), (1, .int (zI e)), (2, .int (zI m)), (3, .int (zI o))] [] := by
    intro n
    induction n with
    | zero => intro e m o T _ hn; omega
    | succ n ih9 =>
      intro e m o T hi9 hn9
      obtain ⟨⟨he, hi9a⟩, hi9b, hT⟩ := hi9
      refine G_iload_n (pc := 9) 3 3 dX3_dropOutdated_9 rfl rfl ?_
      refine G_iload_n (pc := 10) 1 1 dX3_dropOutdated_10 rfl rfl ?_
      refine G_icmp_ge (pc := 11) 41 dX3_dropOutdated_11 (by decide) (by first | exact hS _ _ | exact hT _ _ | exact ⟨by omega, by omega⟩ | assumption) (by first | exact hS _ _ | exact hT _ _ | exact ⟨by omega, by omega⟩ | assumption) (fun c11 => ?_) (fun c11 => ?_)
      · refine G_iload_n (pc := 41) 2 2 dX3_dropOutdated_41 rfl rfl ?_
        exact G_iret_m (pc := 42) hF dX3_dropOutdated_42 ⟨Nat.le_of_ble_eq_true rfl, Nat.le_of_ble_eq_true rfl⟩ (by rw [← hi9b, lp_end (by omega)]) (by rw [← hi9b, lp_end (by omega)])
      · refine G_aload_n (pc := 14) 0 0 dX3_dropOutdated_14 rfl rfl ?_
        refine G_iload_n (pc := 15) 3 3 dX3_dropOutdated_15 rfl rfl ?_
        refine G_iload_n (pc := 16) 1 1 dX3_dropOutdated_16 rfl rfl ?_
        refine G_callVd (pc := 17) gk_X3_69 dX3_dropOutdated_17 (mg_11 (by first | assumption | omega | exact ⟨by omega, by omega⟩ | exact hS _ _ | exact hT _ _)) rfl (c_X3_isOutdated (by first | assumption | omega | exact ⟨by omega, by omega⟩ | exact hS _ _ | exact hT _ _) (by first | assumption | omega | exact ⟨by omega, by omega⟩ | exact hS _ _ | exact hT _ _) (by first | assumption | omega | exact ⟨by omega, by omega⟩ | exact hS _ _ | exact hT _ _) (by first | assumption | omega | exact ⟨by omega, by omega⟩ | exact hS _ _ | exact hT _ _) (by first | assumption | omega | exact ⟨by omega, by omega⟩ | exact hS _ _ | exact hT _ _) (by first | assumption | omega | exact ⟨by omega, by omega⟩ | exact hS _ _ | exact hT _ _)) rfl rfl (Nat.le_of_ble_eq_true rfl) ⟨⟨Nat.le_of_ble_eq_true rfl, Nat.le_of_ble_eq_true rfl⟩, Nat.le_of_ble_eq_true rfl, Nat.le_of_ble_eq_true rfl⟩ ?_
        refine G_if_eq_b (pc := 20) 35 dX3_dropOutdated_20 (by decide) (fun c20 => ?_) (fun c20 => ?_)
        · try rw [he] at c20
          refine G_iinc_e (pc := 35) 3 (fun w => [(3, .int (zI w)), (0, .ref (ad (11, t, p, 0))), (1, .int (zI e)), (2, .int (zI m))]) dX3_dropOutdated_35 rfl (by decide) (fun _ => rfl) (fun v35 e35 => ?_)
          refine G_goto (pc := 38) 9 dX3_dropOutdated_38 (by decide) ?_
          refine G_perm (lv' := [(0, .ref (ad (11, t, p, 0))), (1, .int (zI e)), (2, .int (zI m)), (3, .int (zI v35))]) [1, 2, 3, 0] rfl ?_
          exact ih9 e m v35 T ⟨by omega, by rw [e35, ← hi9b, lp_step (a := o) (n := zse P S t p) (by omega)]; first | (rw [show zdr t p (zse P S t p) o (T, m) = (T, v32) by rw [hT, e32]; exact if_pos c20]) | (rw [show zdr t p (zse P S t p) o (T, m) = (T, m) from if_neg c20]), by first | exact hT | (rw [hT]; exact zst_R hT ⟨by omega, by omega⟩)⟩ (by omega)
        · rw [he] at c20
          refine G_aload_n (pc := 23) 0 0 dX3_dropOutdated_23 rfl rfl ?_
          refine G_iload_n (pc := 24) 3 3 dX3_dropOutdated_24 rfl rfl ?_
          refine G_callVd (pc := 25) gk_X3_41 dX3_dropOutdated_25 (mg_11 (by first | assumption | omega | exact ⟨by omega, by omega⟩ | exact hS _ _ | exact hT _ _)) rfl (c_X3_at (by first | assumption | omega | exact ⟨by omega, by omega⟩ | exact hS _ _ | exact hT _ _) (by first | assumption | omega | exact ⟨by omega, by omega⟩ | exact hS _ _ | exact hT _ _) (by first | assumption | omega | exact ⟨by omega, by omega⟩ | exact hS _ _ | exact hT _ _) (by first | assumption | omega | exact ⟨by omega, by omega⟩ | exact hS _ _ | exact hT _ _)) rfl rfl (Nat.le_of_ble_eq_true rfl) ⟨⟨Nat.le_of_ble_eq_true rfl, Nat.le_of_ble_eq_true rfl⟩, Nat.le_of_ble_eq_true rfl, Nat.le_of_ble_eq_true rfl⟩ ?_
          refine G_iconst (pc := 28) dX3_dropOutdated_28 ?_
          refine G_putf (pc := 29) fl_X3_55 fp_X2_5 dX3_dropOutdated_29 (mg_14 (by first | assumption | omega | exact ⟨by omega, by omega⟩ | exact hS _ _ | exact hT _ _)) (Nat.le_of_ble_eq_true rfl) (zb_nar (by first | exact zb_ite | omega)) rfl (mp_14_5 _ (by first | assumption | omega | exact ⟨by omega, by omega⟩ | exact hS _ _ | exact hT _ _)) ?_
          refine G_name (fun S1_29 hS1_29 => ?_)
          refine G_iinc_e (pc := 32) 2 (fun w => [(2, .int (zI w)), (0, .ref (ad (11, t, p, 0))), (1, .int (zI e)), (3, .int (zI o))]) dX3_dropOutdated_32 rfl (by decide) (fun _ => rfl) (fun v32 e32 => ?_)
          try rw [he] at c20
          refine G_iinc_e (pc := 35) 3 (fun w => [(3, .int (zI w)), (2, .int (zI v32)), (0, .ref (ad (11, t, p, 0))), (1, .int (zI e))]) dX3_dropOutdated_35 rfl (by decide) (fun _ => rfl) (fun v35 e35 => ?_)
          refine G_goto (pc := 38) 9 dX3_dropOutdated_38 (by decide) ?_
          refine G_perm (lv' := [(0, .ref (ad (11, t, p, 0))), (1, .int (zI e)), (2, .int (zI v32)), (3, .int (zI v35))]) [2, 3, 1, 0] rfl ?_
          exact ih9 e v32 v35 S1_29 ⟨by omega, by rw [e35, ← hi9b, lp_step (a := o) (n := zse P S t p) (by omega)]; first | (rw [show zdr t p (zse P S t p) o (T, m) = (S1_29, v32) by rw [hS1_29, e32]; exact if_pos c20]) | (rw [show zdr t p (zse P S t p) o (T, m) = (T, m) from if_neg c20]), by first | exact hT | (rw [hS1_29]; exact zst_R hT ⟨by omega, by omega⟩)⟩ (by omega)
  refine G_perm (lv' := [(0, .ref (ad (11, t, p, 0))), (1, .int (zI v4)), (2, .int (zI v6)), (3, .int (zI v8))]) [3, 2, 1, 0] rfl ?_
  exact L9 _ v4 v6 v8 S ⟨by omega, by rw [e6, e8], hS⟩ (Nat.lt_succ_self _)
set_option maxHeartbeats 4000000 in
set_option maxRecDepth 100000 in
theorem c_X3_dropOld {l : Launch} {Δ : zDl} {ad : zK → Nat} {P : zP} {S : zS} {X : zMem} {t p x y : Int} (hP : zWP P) (ht : 0 ≤ t ∧ t < P 0 0 0) (hp : 0 ≤ p ∧ p < P 1 t 0) (hS : ∀ k f, zR (S k f)) (hx : 0 ≤ x ∧ x ≤ 9999) (hy : zR y) (hb : ∀ t p o, 0 ≤ S (14, t, p, o) 2 ∧ S (14, t, p, o) 2 ≤ 9999) (hs : 0 ≤ S (11, t, p, 0) 1 ∧ S (11, t, p, 0) 1 ≤ P 2 t p) : zMn l Δ yX3_dropOld cX3_dropOld 3 none 5 0 0 [.ref (ad (11, t, p, 0)), .int (zI x), .int (zI y)] ad (mm Δ ad P S X) (zD none ad (mm Δ ad P (zdo P t p x y (P 2 t p - S (11, t, p, 0) 1).toNat S) X)) := by
  refine zMn_of (by decide) (Nat.le_of_ble_eq_true rfl) (fun Γ hl hΔ hF => ?_)
  subst hl hΔ
  show G Γ _ _ _ RX3 _ _ _ _ _ [(0, .ref (ad (11, t, p, 0))), (1, .int (zI x)), (2, .int (zI y))] []
  have hM := hP.m ht hp
  have L0 : ∀ (n : Nat) (T : zS), ((0 ≤ T (11, t, p, 0) 1 ∧ T (11, t, p, 0) 1 ≤ P 2 t p) ∧ zdo P t p x y (P 2 t p - T (11, t, p, 0) 1).toNat T = zdo P t p x y (P 2 t p - S (11, t, p, 0) 1).toNat S ∧ (∀ k f, zR (T k f)) ∧ ∀ t p o, 0 ≤ T (14, t, p, o) 2 ∧ T (14, t, p, o) 2 ≤ 9999) → (P 2 t p - T (11, t, p, 0) 1).toNat < n → G Γ (zRm 5 0 0) cX3_dropOld 3 RX3 ad (mm (z_d Γ) ad P T X) 0 0 0 [(0, .ref (ad (11, t, p, 0))), (1, .int (zI x)), (2, .int (zI y))] [] := by
    intro n
    induction n with
    | zero => intro  T _ hn; omega
    | succ n ih0 =>
      intro  T hi0 hn0
      obtain ⟨hs1, hq1, hT, hbT⟩ := hi0
      refine G_aload_n (pc := 0) 0 0 dX3_dropOld_0 rfl rfl ?_
      refine G_getf (pc := 1) fl_X3_18 dX3_dropOld_1 (mg_11 (by first | assumption | omega | exact ⟨by omega, by omega⟩ | exact hS _ _ | exact hT _ _)) rfl ?_
      refine G_aload_n (pc := 4) 0 0 dX3_dropOld_4 rfl rfl ?_
      refine G_callVd (pc := 5) gk_X3_40 dX3_dropOld_5 (mg_11 (by first | assumption | omega | exact ⟨by omega, by omega⟩ | exact hS _ _ | exact hT _ _)) rfl (c_X3_size (by first | assumption | omega | exact ⟨by omega, by omega⟩ | exact hS _ _ | exact hT _ _) (by first | assumption | omega | exact ⟨by omega, by omega⟩ | exact hS _ _ | exact hT _ _)) rfl rfl (Nat.le_of_ble_eq_true rfl) ⟨⟨Nat.le_of_ble_eq_true rfl, Nat.le_of_ble_eq_true rfl⟩, Nat.le_of_ble_eq_true rfl, Nat.le_of_ble_eq_true rfl⟩ ?_
      refine G_icmp_ge (pc := 8) 52 dX3_dropOld_8 (by decide) (by first | exact hS _ _ | exact hT _ _ | exact ⟨by omega, by omega⟩ | assumption) (by first | exact hS _ _ | exact hT _ _ | exact ⟨by omega, by omega⟩ | assumption) (fun c8 => ?_) (fun c8 => ?_)
      · exact G_vret_d (pc := 52) hF dX3_dropOld_52 ⟨Nat.le_of_ble_eq_true rfl, Nat.le_of_ble_eq_true rfl⟩ (by rw [← hq1, zdo_stop _ (fun h => by first | omega | exact c24 h.2)])
      · refine G_aload_n (pc := 11) 0 0 dX3_dropOld_11 rfl rfl ?_
        refine G_aload_n (pc := 12) 0 0 dX3_dropOld_12 rfl rfl ?_
        refine G_getf (pc := 13) fl_X3_18 dX3_dropOld_13 (mg_11 (by first | assumption | omega | exact ⟨by omega, by omega⟩ | exact hS _ _ | exact hT _ _)) rfl ?_
        refine G_callVd (pc := 16) gk_X3_41 dX3_dropOld_16 (mg_11 (by first | assumption | omega | exact ⟨by omega, by omega⟩ | exact hS _ _ | exact hT _ _)) rfl (c_X3_at (by first | assumption | omega | exact ⟨by omega, by omega⟩ | exact hS _ _ | exact hT _ _) (by first | assumption | omega | exact ⟨by omega, by omega⟩ | exact hS _ _ | exact hT _ _) (by first | assumption | omega | exact ⟨by omega, by omega⟩ | exact hS _ _ | exact hT _ _) (by first | assumption | omega | exact ⟨by omega, by omega⟩ | exact hS _ _ | exact hT _ _)) rfl rfl (Nat.le_of_ble_eq_true rfl) ⟨⟨Nat.le_of_ble_eq_true rfl, Nat.le_of_ble_eq_true rfl⟩, Nat.le_of_ble_eq_true rfl, Nat.le_of_ble_eq_true rfl⟩ ?_
        refine G_iload_n (pc := 19) 1 1 dX3_dropOld_19 rfl rfl ?_
        refine G_iload_n (pc := 20) 2 2 dX3_dropOld_20 rfl rfl ?_
        refine G_callSd (pc := 21) gk_X3_51 dX3_dropOld_21 (c_X3_isOld (by first | assumption | omega | exact ⟨by omega, by omega⟩ | exact hS _ _ | exact hT _ _) (by first | assumption | omega | exact ⟨by omega, by omega⟩ | exact hS _ _ | exact hT _ _) (by first | assumption | omega | exact ⟨by omega, by omega⟩ | exact hS _ _ | exact hT _ _) (by first | assumption | omega | exact ⟨by omega, by omega⟩ | exact hS _ _ | exact hT _ _) (by first | assumption | omega | exact ⟨by omega, by omega⟩ | exact hS _ _ | exact hT _ _) (by first | assumption | omega | exact ⟨by omega, by omega⟩ | exact hS _ _ | exact hT _ _) (by first | assumption | omega | exact ⟨by omega, by omega⟩ | exact hS _ _ | exact hT _ _)) rfl rfl (Nat.le_of_ble_eq_true rfl) ⟨⟨Nat.le_of_ble_eq_true rfl, Nat.le_of_ble_eq_true rfl⟩, Nat.le_of_ble_eq_true rfl, Nat.le_of_ble_eq_true rfl⟩ ?_
        refine G_if_eq_b (pc := 24) 52 dX3_dropOld_24 (by decide) (fun c24 => ?_) (fun c24 => ?_)
        · exact G_vret_d (pc := 52) hF dX3_dropOld_52 ⟨Nat.le_of_ble_eq_true rfl, Nat.le_of_ble_eq_true rfl⟩ (by rw [← hq1, zdo_stop _ (fun h => by first | omega | exact c24 h.2)])
        · refine G_aload_n (pc := 27) 0 0 dX3_dropOld_27 rfl rfl ?_
          refine G_aload_n (pc := 28) 0 0 dX3_dropOld_28 rfl rfl ?_
          refine G_getf (pc := 29) fl_X3_18 dX3_dropOld_29 (mg_11 (by first | assumption | omega | exact ⟨by omega, by omega⟩ | exact hS _ _ | exact hT _ _)) rfl ?_
          refine G_callVd (pc := 32) gk_X3_41 dX3_dropOld_32 (mg_11 (by first | assumption | omega | exact ⟨by omega, by omega⟩ | exact hS _ _ | exact hT _ _)) rfl (c_X3_at (by first | assumption | omega | exact ⟨by omega, by omega⟩ | exact hS _ _ | exact hT _ _) (by first | assumption | omega | exact ⟨by omega, by omega⟩ | exact hS _ _ | exact hT _ _) (by first | assumption | omega | exact ⟨by omega, by omega⟩ | exact hS _ _ | exact hT _ _) (by first | assumption | omega | exact ⟨by omega, by omega⟩ | exact hS _ _ | exact hT _ _)) rfl rfl (Nat.le_of_ble_eq_true rfl) ⟨⟨Nat.le_of_ble_eq_true rfl, Nat.le_of_ble_eq_true rfl⟩, Nat.le_of_ble_eq_true rfl, Nat.le_of_ble_eq_true rfl⟩ ?_
          refine G_iconst (pc := 35) dX3_dropOld_35 ?_
          refine G_putf (pc := 36) fl_X3_55 fp_X2_5 dX3_dropOld_36 (mg_14 (by first | assumption | omega | exact ⟨by omega, by omega⟩ | exact hS _ _ | exact hT _ _)) (Nat.le_of_ble_eq_true rfl) (zb_nar (by first | exact zb_ite | omega)) rfl (mp_14_5 _ (by first | assumption | omega | exact ⟨by omega, by omega⟩ | exact hS _ _ | exact hT _ _)) ?_
          refine G_name (fun S1_36 hS1_36 => ?_)
          refine G_aload_n (pc := 39) 0 0 dX3_dropOld_39 rfl rfl ?_
          refine G_dup (pc := 40) dX3_dropOld_40 rfl ?_
          refine G_getf (pc := 41) fl_X3_18 dX3_dropOld_41 (mg_11 (by first | assumption | omega | exact ⟨by omega, by omega⟩ | exact hS _ _ | exact hT _ _)) rfl ?_
          refine G_iconst (pc := 44) dX3_dropOld_44 ?_
          refine G_iadd (pc := 45) dX3_dropOld_45 ?_
          refine G_putf (pc := 46) fl_X3_18 fp_X3_1 dX3_dropOld_46 (mg_11 (by first | assumption | omega | exact ⟨by omega, by omega⟩ | exact hS _ _ | exact hT _ _)) (Nat.le_of_ble_eq_true rfl) rfl rfl (mp_11_1 _ (by first | assumption | omega | exact ⟨by omega, by omega⟩ | exact hS _ _ | exact hT _ _)) ?_
          refine G_name (fun S2_46 hS2_46 => ?_)
          have k1 : S1_36 (11, t, p, 0) 1 = T (11, t, p, 0) 1 := by rw [hS1_36]; exact zst_k _ _ _ _ (by simp)
          have k2 : S2_46 (11, t, p, 0) 1 = T (11, t, p, 0) 1 + 1 := by rw [hS2_46, zst_s, k1]
          have k3 : ∀ k f, zR (S2_46 k f) := by rw [hS2_46, k1, hS1_36]; exact zst_R (zst_R hT ⟨by omega, by omega⟩) ⟨by omega, by omega⟩
          have k4 : ∀ t p o, 0 ≤ S2_46 (14, t, p, o) 2 ∧ S2_46 (14, t, p, o) 2 ≤ 9999 := fun t' p' o' => by rw [hS2_46, zst_k _ _ _ _ (by simp), hS1_36, zst_at, if_neg (fun h => by have := h.2; omega)]; exact hbT t' p' o'
          have k5 : (P 2 t p - T (11, t, p, 0) 1).toNat = (P 2 t p - S2_46 (11, t, p, 0) 1).toNat + 1 := by omega
          refine G_goto (pc := 49) 0 dX3_dropOld_49 (by decide) ?_
          refine G_perm (lv' := [(0, .ref (ad (11, t, p, 0))), (1, .int (zI x)), (2, .int (zI y))]) [0, 1, 2] rfl ?_
          exact ih0  S2_46 ⟨by omega, by rw [← hq1, k5, zdo_go _ ⟨by omega, c24⟩, hS2_46, k1, hS1_36], k3, k4⟩ (by omega)
  refine G_perm (lv' := [(0, .ref (ad (11, t, p, 0))), (1, .int (zI x)), (2, .int (zI y))]) [0, 1, 2] rfl ?_
  exact L0 _  S ⟨hs, rfl, hS, hb⟩ (Nat.lt_succ_self _)
