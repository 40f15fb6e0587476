set_option maxHeartbeats 4000000 in
set_option maxRecDepth 100000 in
theorem c_X7_ofMessage {l : Launch} {Δ : zDl} {ad : zK → Nat} {P : zP} {S : zS} {X : zMem} {Q : zP} {m w : Int} (hV : zWM Q S) (hm : 0 ≤ m ∧ m < 80) (h61 : Q 61 0 0 = P 61 0 0) (hw : 0 ≤ w ∧ w ≤ 4) : zMn l Δ yX7_ofMessage cX7_ofMessage 3 (some .int) 2 0 0 [.ref (ad (40, 0, 0, 0)), .int (zI m), .int (zI w)] ad (mm Δ ad P S X) (zD (some (.int (zI ((if w = 0 then S (54, 0, 0, 0) m else if w = 1 then S (55, 0, 0, 0) m else if w = 2 then S (56, 0, 0, 0) m else if w = 3 then mS S m else if S (58, 0, 0, 0) m = 0 then 0 else 1))))) ad (mm Δ ad P S X)) := by
  refine zMn_of (by decide) (Nat.le_of_ble_eq_true rfl) (fun Γ hl hΔ hF => ?_)
  subst hl hΔ
  show G Γ _ _ _ RX7 _ _ _ _ _ [(0, .ref (ad (40, 0, 0, 0))), (1, .int (zI m)), (2, .int (zI w))] []
  have hq := hV.q
  refine G_iload_n (pc := 0) 2 2 dX7_ofMessage_0 rfl rfl ?_
  rcases (show w = 0 ∨ w = 1 ∨ w = 2 ∨ w = 3 ∨ w = 4 by omega) with rfl | rfl | rfl | rfl | rfl
  · refine G_tabIn (pc := 1) 32 dX7_ofMessage_1 ⟨by omega, by omega⟩ ⟨by omega, by omega⟩ rfl (by decide) ?_
    refine G_aload_n (pc := 32) 0 0 dX7_ofMessage_32 rfl rfl ?_
    refine G_getf (pc := 33) fl_X7_42 dX7_ofMessage_33 mg_40 rfl ?_
    refine G_iload_n (pc := 36) 1 1 dX7_ofMessage_36 rfl rfl ?_
    refine G_iald (pc := 37) dX7_ofMessage_37 mg_54 ⟨by omega, by omega, by omega, by omega⟩ ?_
    have hb37 := hV.b54 (m)
    exact G_iret_d (pc := 38) hF dX7_ofMessage_38 ⟨Nat.le_of_ble_eq_true rfl, Nat.le_of_ble_eq_true rfl⟩ (by first | rfl | (simp [c65]) | (simp))
  · refine G_tabIn (pc := 1) 39 dX7_ofMessage_1 ⟨by omega, by omega⟩ ⟨by omega, by omega⟩ rfl (by decide) ?_
    refine G_aload_n (pc := 39) 0 0 dX7_ofMessage_39 rfl rfl ?_
    refine G_getf (pc := 40) fl_X7_45 dX7_ofMessage_40 mg_40 rfl ?_
    refine G_iload_n (pc := 43) 1 1 dX7_ofMessage_43 rfl rfl ?_
    refine G_iald (pc := 44) dX7_ofMessage_44 mg_55 ⟨by omega, by omega, by omega, by omega⟩ ?_
    have hb44 := hV.b55 (m)
    exact G_iret_d (pc := 45) hF dX7_ofMessage_45 ⟨Nat.le_of_ble_eq_true rfl, Nat.le_of_ble_eq_true rfl⟩ (by first | rfl | (simp [c65]) | (simp))
  · refine G_tabIn (pc := 1) 46 dX7_ofMessage_1 ⟨by omega, by omega⟩ ⟨by omega, by omega⟩ rfl (by decide) ?_
    refine G_aload_n (pc := 46) 0 0 dX7_ofMessage_46 rfl rfl ?_
    refine G_getf (pc := 47) fl_X7_48 dX7_ofMessage_47 mg_40 rfl ?_
    refine G_iload_n (pc := 50) 1 1 dX7_ofMessage_50 rfl rfl ?_
    refine G_iald (pc := 51) dX7_ofMessage_51 mg_56 ⟨by omega, by omega, by omega, by omega⟩ ?_
    have hb51 := hV.b56 (m)
    exact G_iret_d (pc := 52) hF dX7_ofMessage_52 ⟨Nat.le_of_ble_eq_true rfl, Nat.le_of_ble_eq_true rfl⟩ (by first | rfl | (simp [c65]) | (simp))
  · refine G_tabIn (pc := 1) 53 dX7_ofMessage_1 ⟨by omega, by omega⟩ ⟨by omega, by omega⟩ rfl (by decide) ?_
    refine G_aload_n (pc := 53) 0 0 dX7_ofMessage_53 rfl rfl ?_
    refine G_iload_n (pc := 54) 1 1 dX7_ofMessage_54 rfl rfl ?_
    refine G_callVd (pc := 55) gk_X7_117 dX7_ofMessage_55 mg_40 rfl (c_X7_seen (Q := Q) (by first | assumption | omega | exact ⟨by omega, by omega⟩ | exact hS _ _ | exact hT _ _) (by first | assumption | omega | exact ⟨by omega, by omega⟩ | exact hS _ _ | exact hT _ _) (by first | assumption | omega | exact ⟨by omega, by omega⟩ | exact hS _ _ | exact hT _ _)) rfl rfl (Nat.le_of_ble_eq_true rfl) ⟨⟨Nat.le_of_ble_eq_true rfl, Nat.le_of_ble_eq_true rfl⟩, Nat.le_of_ble_eq_true rfl, Nat.le_of_ble_eq_true rfl⟩ ?_
    have hb55 := mS_le (S := S) (m := m)
    exact G_iret_d (pc := 58) hF dX7_ofMessage_58 ⟨Nat.le_of_ble_eq_true rfl, Nat.le_of_ble_eq_true rfl⟩ (by first | rfl | (simp [c65]) | (simp))
  · refine G_tabOut (pc := 1) 59 dX7_ofMessage_1 ⟨by omega, by omega⟩ (by omega) (by decide) ?_
    refine G_aload_n (pc := 59) 0 0 dX7_ofMessage_59 rfl rfl ?_
    refine G_getf (pc := 60) fl_X7_54 dX7_ofMessage_60 mg_40 rfl ?_
    refine G_iload_n (pc := 63) 1 1 dX7_ofMessage_63 rfl rfl ?_
    refine G_zald (pc := 64) dX7_ofMessage_64 mg_58 ⟨by omega, by omega, by omega, by omega⟩ ?_
    have hb64 := hV.b58 (m)
    refine G_if_eq (pc := 65) 72 dX7_ofMessage_65 (by decide) (by first | exact hS _ _ | exact hT _ _ | exact ⟨by omega, by omega⟩ | assumption | exact zWM.r (by assumption) _ _ (by decide)) (fun c65 => ?_) (fun c65 => ?_)
    · refine G_iconst (pc := 72) dX7_ofMessage_72 ?_
      exact G_iret_d (pc := 73) hF dX7_ofMessage_73 ⟨Nat.le_of_ble_eq_true rfl, Nat.le_of_ble_eq_true rfl⟩ (by first | rfl | (simp [c65]) | (simp))
    · refine G_iconst (pc := 68) dX7_ofMessage_68 ?_
      refine G_goto (pc := 69) 73 dX7_ofMessage_69 (by decide) ?_
      exact G_iret_d (pc := 73) hF dX7_ofMessage_73 ⟨Nat.le_of_ble_eq_true rfl, Nat.le_of_ble_eq_true rfl⟩ (by first | rfl | (simp [c65]) | (simp))
set_option maxHeartbeats 4000000 in
set_option maxRecDepth 100000 in
theorem c_X7_keptNow {l : Launch} {Δ : zDl} {ad : zK → Nat} {P : zP} {S : zS} {X : zMem} {Q : zP} {t : Int} (hV : zWM Q S) (ht : zR t) (h61 : Q 61 0 0 = P 61 0 0) : zMn l Δ yX7_keptNow cX7_keptNow 4 (some .int) 2 0 0 [.ref (ad (40, 0, 0, 0)), .int (zI t)] ad (mm Δ ad P S X) (zD (some (.int (zI (mkn S t)))) ad (mm Δ ad P S X)) := by
  refine zMn_of (by decide) (Nat.le_of_ble_eq_true rfl) (fun Γ hl hΔ hF => ?_)
  subst hl hΔ
  show G Γ _ _ _ RX7 _ _ _ _ _ [(0, .ref (ad (40, 0, 0, 0))), (1, .int (zI t))] []
  have hq := hV.q
  have h11 := hV.f11
  refine G_iconst (pc := 0) dX7_keptNow_0 ?_
  refine G_istore_ne (pc := 1) 2 (fun zw => [(2, .int (zI zw)), (0, .ref (ad (40, 0, 0, 0))), (1, .int (zI t))]) dX7_keptNow_1 rfl (by decide) (fun _ => rfl) (fun v1 e1 => ?_)
  refine G_iconst (pc := 2) dX7_keptNow_2 ?_
  refine G_istore_ne (pc := 3) 3 (fun zw => [(3, .int (zI zw)), (2, .int (zI v1)), (0, .ref (ad (40, 0, 0, 0))), (1, .int (zI t))]) dX7_keptNow_3 rfl (by decide) (fun _ => rfl) (fun v3 e3 => ?_)
  have L4 : ∀ (n : Nat) (k : Int) (o : Int), ((0 ≤ o ∧ (o ≤ S (40, 0, 0, 0) 11 ∨ o = 0)) ∧ k + sm (fun m => if mkq S t m then 1 else 0) o (S (40, 0, 0, 0) 11) = mkn S t) → (S (40, 0, 0, 0) 11 - o).toNat < n → G Γ (zRm 2 0 0) cX7_keptNow 4 RX7 ad (mm (z_d Γ) ad P S X) 0 0 4 [(0, .ref (ad (40, 0, 0, 0))), (1, .int (zI t)), (2, .int (zI k)), (3, .int (zI o))] [] := by
    intro n
    induction n with
    | zero => intro k o _ hn; omega
    | succ n ih4 =>
      intro k o hi4 hn4
      refine G_iload_n (pc := 4) 3 3 dX7_keptNow_4 rfl rfl ?_
      refine G_aload_n (pc := 5) 0 0 dX7_keptNow_5 rfl rfl ?_
      refine G_getf (pc := 6) fl_X7_140 dX7_keptNow_6 mg_40 rfl ?_
      have hb6 := hV.f11
      refine G_icmp_ge (pc := 9) 55 dX7_keptNow_9 (by decide) (by first | exact hS _ _ | exact hT _ _ | exact ⟨by omega, by omega⟩ | assumption | exact zWM.r (by assumption) _ _ (by decide)) (by first | exact hS _ _ | exact hT _ _ | exact ⟨by omega, by omega⟩ | assumption | exact zWM.r (by assumption) _ _ (by decide)) (fun c9 => ?_) (fun c9 => ?_)
      · refine G_iload_n (pc := 55) 2 2 dX7_keptNow_55 rfl rfl ?_
        exact G_iret_d (pc := 56) hF dX7_keptNow_56 ⟨Nat.le_of_ble_eq_true rfl, Nat.le_of_ble_eq_true rfl⟩ (by rw [← hi4.2, sm_end (by omega)]; omega)
      · refine G_iload_n (pc := 12) 2 2 dX7_keptNow_12 rfl rfl ?_
        refine G_aload_n (pc := 13) 0 0 dX7_keptNow_13 rfl rfl ?_
        refine G_getf (pc := 14) fl_X7_36 dX7_keptNow_14 mg_40 rfl ?_
        refine G_iload_n (pc := 17) 3 3 dX7_keptNow_17 rfl rfl ?_
        refine G_iald (pc := 18) dX7_keptNow_18 mg_52 ⟨by omega, by omega, by omega, by omega⟩ ?_
        have hb18 := hV.b52 (o)
        refine G_iconst (pc := 19) dX7_keptNow_19 ?_
        refine G_idiv (pc := 20) dX7_keptNow_20 ⟨by omega, by omega, by omega⟩ ⟨by omega, by omega, by omega⟩ ?_
        refine G_iload_n (pc := 21) 1 1 dX7_keptNow_21 rfl rfl ?_
        refine G_icmp_ne (pc := 22) 46 dX7_keptNow_22 (by decide) (by first | exact hS _ _ | exact hT _ _ | exact ⟨by omega, by omega⟩ | assumption | exact zWM.r (by assumption) _ _ (by decide)) (by first | exact hS _ _ | exact hT _ _ | exact ⟨by omega, by omega⟩ | assumption | exact zWM.r (by assumption) _ _ (by decide)) (fun c22 => ?_) (fun c22 => ?_)
        · refine G_iconst (pc := 46) dX7_keptNow_46 ?_
          refine G_iadd (pc := 47) dX7_keptNow_47 ?_
          refine G_istore_ne (pc := 48) 2 (fun zw => [(2, .int (zI zw)), (0, .ref (ad (40, 0, 0, 0))), (1, .int (zI t)), (3, .int (zI o))]) dX7_keptNow_48 rfl (by decide) (fun _ => rfl) (fun v48 e48 => ?_)
          refine G_iinc_e (pc := 49) 3 (fun zw => [(3, .int (zI zw)), (2, .int (zI v48)), (0, .ref (ad (40, 0, 0, 0))), (1, .int (zI t))]) dX7_keptNow_49 rfl (by decide) (fun _ => rfl) (fun v49 e49 => ?_)
          refine G_goto (pc := 52) 4 dX7_keptNow_52 (by decide) ?_
          refine G_perm (lv' := [(0, .ref (ad (40, 0, 0, 0))), (1, .int (zI t)), (2, .int (zI v48)), (3, .int (zI v49))]) [2, 3, 1, 0] rfl ?_
          exact ih4 v48 v49  ⟨by omega, by rw [← hi4.2, sm_step (a := o) (n := S (40, 0, 0, 0) 11) (by omega), e49]; first | (rw [if_pos (⟨by assumption, by assumption, by assumption⟩)]; omega) | (rw [if_neg (fun h => c22 h.1)]; omega) | (rw [if_neg (fun h => c30 h.2.1)]; omega) | (rw [if_neg (fun h => c39 h.2.2)]; omega)⟩ (by omega)
        · refine G_aload_n (pc := 25) 0 0 dX7_keptNow_25 rfl rfl ?_
          refine G_iload_n (pc := 26) 3 3 dX7_keptNow_26 rfl rfl ?_
          refine G_callVd (pc := 27) gk_X7_117 dX7_keptNow_27 mg_40 rfl (c_X7_seen (Q := Q) (by first | assumption | omega | exact ⟨by omega, by omega⟩ | exact hS _ _ | exact hT _ _) (by first | assumption | omega | exact ⟨by omega, by omega⟩ | exact hS _ _ | exact hT _ _) (by first | assumption | omega | exact ⟨by omega, by omega⟩ | exact hS _ _ | exact hT _ _)) rfl rfl (Nat.le_of_ble_eq_true rfl) ⟨⟨Nat.le_of_ble_eq_true rfl, Nat.le_of_ble_eq_true rfl⟩, Nat.le_of_ble_eq_true rfl, Nat.le_of_ble_eq_true rfl⟩ ?_
          have hb27 := mS_le (S := S) (m := o)
          refine G_if_ne (pc := 30) 46 dX7_keptNow_30 (by decide) (by first | exact hS _ _ | exact hT _ _ | exact ⟨by omega, by omega⟩ | assumption | exact zWM.r (by assumption) _ _ (by decide)) (fun c30 => ?_) (fun c30 => ?_)
          · refine G_iconst (pc := 46) dX7_keptNow_46 ?_
            refine G_iadd (pc := 47) dX7_keptNow_47 ?_
            refine G_istore_ne (pc := 48) 2 (fun zw => [(2, .int (zI zw)), (0, .ref (ad (40, 0, 0, 0))), (1, .int (zI t)), (3, .int (zI o))]) dX7_keptNow_48 rfl (by decide) (fun _ => rfl) (fun v48 e48 => ?_)
            refine G_iinc_e (pc := 49) 3 (fun zw => [(3, .int (zI zw)), (2, .int (zI v48)), (0, .ref (ad (40, 0, 0, 0))), (1, .int (zI t))]) dX7_keptNow_49 rfl (by decide) (fun _ => rfl) (fun v49 e49 => ?_)
            refine G_goto (pc := 52) 4 dX7_keptNow_52 (by decide) ?_
            refine G_perm (lv' := [(0, .ref (ad (40, 0, 0, 0))), (1, .int (zI t)), (2, .int (zI v48)), (3, .int (zI v49))]) [2, 3, 1, 0] rfl ?_
            exact ih4 v48 v49  ⟨by omega, by rw [← hi4.2, sm_step (a := o) (n := S (40, 0, 0, 0) 11) (by omega), e49]; first | (rw [if_pos (⟨by assumption, by assumption, by assumption⟩)]; omega) | (rw [if_neg (fun h => c22 h.1)]; omega) | (rw [if_neg (fun h => c30 h.2.1)]; omega) | (rw [if_neg (fun h => c39 h.2.2)]; omega)⟩ (by omega)
          · refine G_aload_n (pc := 33) 0 0 dX7_keptNow_33 rfl rfl ?_
            refine G_getf (pc := 34) fl_X7_54 dX7_keptNow_34 mg_40 rfl ?_
            refine G_iload_n (pc := 37) 3 3 dX7_keptNow_37 rfl rfl ?_
            refine G_zald (pc := 38) dX7_keptNow_38 mg_58 ⟨by omega, by omega, by omega, by omega⟩ ?_
            have hb38 := hV.b58 (o)
            refine G_if_ne (pc := 39) 46 dX7_keptNow_39 (by decide) (by first | exact hS _ _ | exact hT _ _ | exact ⟨by omega, by omega⟩ | assumption | exact zWM.r (by assumption) _ _ (by decide)) (fun c39 => ?_) (fun c39 => ?_)
            · refine G_iconst (pc := 46) dX7_keptNow_46 ?_
              refine G_iadd (pc := 47) dX7_keptNow_47 ?_
              refine G_istore_ne (pc := 48) 2 (fun zw => [(2, .int (zI zw)), (0, .ref (ad (40, 0, 0, 0))), (1, .int (zI t)), (3, .int (zI o))]) dX7_keptNow_48 rfl (by decide) (fun _ => rfl) (fun v48 e48 => ?_)
              refine G_iinc_e (pc := 49) 3 (fun zw => [(3, .int (zI zw)), (2, .int (zI v48)), (0, .ref (ad (40, 0, 0, 0))), (1, .int (zI t))]) dX7_keptNow_49 rfl (by decide) (fun _ => rfl) (fun v49 e49 => ?_)
              refine G_goto (pc := 52) 4 dX7_keptNow_52 (by decide) ?_
              refine G_perm (lv' := [(0, .ref (ad (40, 0, 0, 0))), (1, .int (zI t)), (2, .int (zI v48)), (3, .int (zI v49))]) [2, 3, 1, 0] rfl ?_
              exact ih4 v48 v49  ⟨by omega, by rw [← hi4.2, sm_step (a := o) (n := S (40, 0, 0, 0) 11) (by omega), e49]; first | (rw [if_pos (⟨by assumption, by assumption, by assumption⟩)]; omega) | (rw [if_neg (fun h => c22 h.1)]; omega) | (rw [if_neg (fun h => c30 h.2.1)]; omega) | (rw [if_neg (fun h => c39 h.2.2)]; omega)⟩ (by omega)
            · refine G_iconst (pc := 42) dX7_keptNow_42 ?_
              refine G_goto (pc := 43) 47 dX7_keptNow_43 (by decide) ?_
              refine G_iadd (pc := 47) dX7_keptNow_47 ?_
              refine G_istore_ne (pc := 48) 2 (fun zw => [(2, .int (zI zw)), (0, .ref (ad (40, 0, 0, 0))), (1, .int (zI t)), (3, .int (zI o))]) dX7_keptNow_48 rfl (by decide) (fun _ => rfl) (fun v48 e48 => ?_)
              refine G_iinc_e (pc := 49) 3 (fun zw => [(3, .int (zI zw)), (2, .int (zI v48)), (0, .ref (ad (40, 0, 0, 0))), (1, .int (zI t))]) dX7_keptNow_49 rfl (by decide) (fun _ => rfl) (fun v49 e49 => ?_)
              refine G_goto (pc := 52) 4 dX7_keptNow_52 (by decide) ?_
              refine G_perm (lv' := [(0, .ref (ad (40, 0, 0, 0))), (1, .int (zI t)), (2, .int (zI v48)), (3, .int (zI v49))]) [2, 3, 1, 0] rfl ?_
              exact ih4 v48 v49  ⟨by omega, by rw [← hi4.2, sm_step (a := o) (n := S (40, 0, 0, 0) 11) (by omega), e49]; first | (rw [if_pos (⟨by assumption, by assumption, by assumption⟩)]; omega) | (rw [if_neg (fun h => c22 h.1)]; omega) | (rw [if_neg (fun h => c30 h.2.1)]; omega) | (rw [if_neg (fun h => c39 h.2.2)]; omega)⟩ (by omega)
  refine G_perm (lv' := [(0, .ref (ad (40, 0, 0, 0))), (1, .int (zI t)), (2, .int (zI v1)), (3, .int (zI v3))]) [2, 3, 1, 0] rfl ?_
  exact L4 _ v1 v3  ⟨by omega, by subst e1 e3; exact Int.zero_add _⟩ (Nat.lt_succ_self _)
set_option maxHeartbeats 4000000 in
set_option maxRecDepth 100000 in
theorem c_X7_countOf {l : Launch} {Δ : zDl} {ad : zK → Nat} {P : zP} {S : zS} {X : zMem} {Q : zP} {g x : Int} (hV : zWM Q S) (hg4 : 0 ≤ g ∧ g < 4) (hx : zR x) : zMn l Δ yX7_countOf cX7_countOf 5 (some .int) 1 0 0 [.ref (ad (40, 0, 0, 0)), .int (zI g), .int (zI x)] ad (mm Δ ad P S X) (zD (some (.int (zI (mco S g x)))) ad (mm Δ ad P S X)) := by
  refine zMn_of (by decide) (Nat.le_of_ble_eq_true rfl) (fun Γ hl hΔ hF => ?_)
  subst hl hΔ
  show G Γ _ _ _ RX7 _ _ _ _ _ [(0, .ref (ad (40, 0, 0, 0))), (1, .int (zI g)), (2, .int (zI x))] []
  have hq := hV.q
  have h11 := hV.f11
  refine G_iconst (pc := 0) dX7_countOf_0 ?_
  refine G_istore_ne (pc := 1) 3 (fun zw => [(3, .int (zI zw)), (0, .ref (ad (40, 0, 0, 0))), (1, .int (zI g)), (2, .int (zI x))]) dX7_countOf_1 rfl (by decide) (fun _ => rfl) (fun v1 e1 => ?_)
  refine G_iconst (pc := 2) dX7_countOf_2 ?_
  refine G_istore_e (pc := 3) (fun zw => [(4, .int (zI zw)), (3, .int (zI v1)), (0, .ref (ad (40, 0, 0, 0))), (1, .int (zI g)), (2, .int (zI x))]) dX7_countOf_3 (by decide) (fun _ => rfl) (fun v3 e3 => ?_)
  have L5 : ∀ (n : Nat) (k : Int) (o : Int), ((0 ≤ o ∧ (o ≤ S (40, 0, 0, 0) 11 ∨ o = 0)) ∧ k + sm (fun m => if S (69, 0, 0, 0) (g * 80 + m) = x then 1 else 0) o (S (40, 0, 0, 0) 11) = mco S g x) → (S (40, 0, 0, 0) 11 - o).toNat < n → G Γ (zRm 1 0 0) cX7_countOf 5 RX7 ad (mm (z_d Γ) ad P S X) 0 0 5 [(0, .ref (ad (40, 0, 0, 0))), (1, .int (zI g)), (2, .int (zI x)), (3, .int (zI k)), (4, .int (zI o))] [] := by
    intro n
    induction n with
    | zero => intro k o _ hn; omega
    | succ n ih5 =>
      intro k o hi5 hn5
      refine G_iload (pc := 5) 4 dX7_countOf_5 rfl ?_
      refine G_aload_n (pc := 7) 0 0 dX7_countOf_7 rfl rfl ?_
      refine G_getf (pc := 8) fl_X7_140 dX7_countOf_8 mg_40 rfl ?_
      have hb8 := hV.f11
      refine G_icmp_ge (pc := 11) 44 dX7_countOf_11 (by decide) (by first | exact hS _ _ | exact hT _ _ | exact ⟨by omega, by omega⟩ | assumption | exact zWM.r (by assumption) _ _ (by decide)) (by first | exact hS _ _ | exact hT _ _ | exact ⟨by omega, by omega⟩ | assumption | exact zWM.r (by assumption) _ _ (by decide)) (fun c11 => ?_) (fun c11 => ?_)
      · refine G_iload_n (pc := 44) 3 3 dX7_countOf_44 rfl rfl ?_
        exact G_iret_d (pc := 45) hF dX7_countOf_45 ⟨Nat.le_of_ble_eq_true rfl, Nat.le_of_ble_eq_true rfl⟩ (by rw [← hi5.2, sm_end (by omega)]; omega)
      · refine G_iload_n (pc := 14) 3 3 dX7_countOf_14 rfl rfl ?_
        refine G_aload_n (pc := 15) 0 0 dX7_countOf_15 rfl rfl ?_
        refine G_getf (pc := 16) fl_X7_81 dX7_countOf_16 mg_40 rfl ?_
        refine G_iload_n (pc := 19) 1 1 dX7_countOf_19 rfl rfl ?_
        refine G_bipush (pc := 20) dX7_countOf_20 (by decide) ?_
        refine G_imul (pc := 22) dX7_countOf_22 ?_
        refine G_iload (pc := 23) 4 dX7_countOf_23 rfl ?_
        refine G_iadd (pc := 25) dX7_countOf_25 ?_
        refine G_iald (pc := 26) dX7_countOf_26 mg_69 ⟨by omega, by omega, by omega, by omega⟩ ?_
        have hb26 := hV.b69 ((g * 80) + o)
        refine G_iload_n (pc := 27) 2 2 dX7_countOf_27 rfl rfl ?_
        refine G_icmp_ne (pc := 28) 35 dX7_countOf_28 (by decide) (by first | exact hS _ _ | exact hT _ _ | exact ⟨by omega, by omega⟩ | assumption | exact zWM.r (by assumption) _ _ (by decide)) (by first | exact hS _ _ | exact hT _ _ | exact ⟨by omega, by omega⟩ | assumption | exact zWM.r (by assumption) _ _ (by decide)) (fun c28 => ?_) (fun c28 => ?_)
        · refine G_iconst (pc := 35) dX7_countOf_35 ?_
          refine G_iadd (pc := 36) dX7_countOf_36 ?_
          refine G_istore_ne (pc := 37) 3 (fun zw => [(3, .int (zI zw)), (0, .ref (ad (40, 0, 0, 0))), (1, .int (zI g)), (2, .int (zI x)), (4, .int (zI o))]) dX7_countOf_37 rfl (by decide) (fun _ => rfl) (fun v37 e37 => ?_)
          refine G_iinc_e (pc := 38) 4 (fun zw => [(4, .int (zI zw)), (3, .int (zI v37)), (0, .ref (ad (40, 0, 0, 0))), (1, .int (zI g)), (2, .int (zI x))]) dX7_countOf_38 rfl (by decide) (fun _ => rfl) (fun v38 e38 => ?_)
          refine G_goto (pc := 41) 5 dX7_countOf_41 (by decide) ?_
          refine G_perm (lv' := [(0, .ref (ad (40, 0, 0, 0))), (1, .int (zI g)), (2, .int (zI x)), (3, .int (zI v37)), (4, .int (zI v38))]) [2, 3, 4, 1, 0] rfl ?_
          exact ih5 v37 v38  ⟨by omega, by rw [← hi5.2, sm_step (a := o) (n := S (40, 0, 0, 0) 11) (by omega), e38]; first | (rw [if_pos (c28)]; omega) | (rw [if_neg (c28)]; omega)⟩ (by omega)
        · refine G_iconst (pc := 31) dX7_countOf_31 ?_
          refine G_goto (pc := 32) 36 dX7_countOf_32 (by decide) ?_
          refine G_iadd (pc := 36) dX7_countOf_36 ?_
          refine G_istore_ne (pc := 37) 3 (fun zw => [(3, .int (zI zw)), (0, .ref (ad (40, 0, 0, 0))), (1, .int (zI g)), (2, .int (zI x)), (4, .int (zI o))]) dX7_countOf_37 rfl (by decide) (fun _ => rfl) (fun v37 e37 => ?_)
          refine G_iinc_e (pc := 38) 4 (fun zw => [(4, .int (zI zw)), (3, .int (zI v37)), (0, .ref (ad (40, 0, 0, 0))), (1, .int (zI g)), (2, .int (zI x))]) dX7_countOf_38 rfl (by decide) (fun _ => rfl) (fun v38 e38 => ?_)
          refine G_goto (pc := 41) 5 dX7_countOf_41 (by decide) ?_
          refine G_perm (lv' := [(0, .ref (ad (40, 0, 0, 0))), (1, .int (zI g)), (2, .int (zI x)), (3, .int (zI v37)), (4, .int (zI v38))]) [2, 3, 4, 1, 0] rfl ?_
          exact ih5 v37 v38  ⟨by omega, by rw [← hi5.2, sm_step (a := o) (n := S (40, 0, 0, 0) 11) (by omega), e38]; first | (rw [if_pos (c28)]; omega) | (rw [if_neg (c28)]; omega)⟩ (by omega)
  refine G_perm (lv' := [(0, .ref (ad (40, 0, 0, 0))), (1, .int (zI g)), (2, .int (zI x)), (3, .int (zI v1)), (4, .int (zI v3))]) [2, 3, 4, 1, 0] rfl ?_
  exact L5 _ v1 v3  ⟨by omega, by subst e1 e3; exact Int.zero_add _⟩ (Nat.lt_succ_self _)
set_option maxHeartbeats 4000000 in
set_option maxRecDepth 100000 in
theorem c_X7_lagNow {l : Launch} {Δ : zDl} {ad : zK → Nat} {P : zP} {S : zS} {X : zMem} {Q : zP} {g p : Int} (hV : zWM Q S) (hg : 0 ≤ g ∧ g < Q 3 0 0) (hp : 0 ≤ p ∧ p < Q 1 (Q 4 g 0) 0) (h61 : Q 61 0 0 = P 61 0 0) : zMn l Δ yX7_lagNow cX7_lagNow 9 (some .int) 3 0 0 [.ref (ad (40, 0, 0, 0)), .int (zI g), .int (zI p)] ad (mm Δ ad P S X) (zD (some (.int (zI (mlg Q S g p)))) ad (mm Δ ad P S X)) := by
  refine zMn_of (by decide) (Nat.le_of_ble_eq_true rfl) (fun Γ hl hΔ hF => ?_)
  subst hl hΔ
  show G Γ _ _ _ RX7 _ _ _ _ _ [(0, .ref (ad (40, 0, 0, 0))), (1, .int (zI g)), (2, .int (zI p))] []
  have hq := hV.q
  have hqg := hV.qg hg
  have hqt := hV.qt hqg
  have hgt := hV.gt hg
  have hgn := hV.gn hg
  have hqm := hV.qm hqg hp
  have hen := hV.en hqg hp
  have hk := hV.b65 (g * 4 + p)
  have hk6 := hV.b66 (g * 4 + p)
  have he9 := fi_le (Q := mEq S (Q 4 g 0 * 4 + p)) (a := 0) (n := S (48, 0, 0, 0) (Q 4 g 0 * 4 + p)) (hV.b48 _).1
  have he : 0 ≤ mEn S (Q 4 g 0 * 4 + p) ∧ mEn S (Q 4 g 0 * 4 + p) ≤ S (48, 0, 0, 0) (Q 4 g 0 * 4 + p) := he9
  refine G_aload_n (pc := 0) 0 0 dX7_lagNow_0 rfl rfl ?_
  refine G_iload_n (pc := 1) 1 1 dX7_lagNow_1 rfl rfl ?_
  refine G_iload_n (pc := 2) 2 2 dX7_lagNow_2 rfl rfl ?_
  refine G_callVd (pc := 3) gk_X7_201 dX7_lagNow_3 mg_40 rfl (c_X7_whereOf (Q := Q) (by first | assumption | omega | exact ⟨by omega, by omega⟩ | exact hS _ _ | exact hT _ _) (by first | assumption | omega | exact ⟨by omega, by omega⟩ | exact hS _ _ | exact hT _ _)) rfl rfl (Nat.le_of_ble_eq_true rfl) ⟨⟨Nat.le_of_ble_eq_true rfl, Nat.le_of_ble_eq_true rfl⟩, Nat.le_of_ble_eq_true rfl, Nat.le_of_ble_eq_true rfl⟩ ?_
  refine G_istore_n (pc := 6) 3 [(3, .int (zI (Q 4 g 0 * 4 + p))), (0, .ref (ad (40, 0, 0, 0))), (1, .int (zI g)), (2, .int (zI p))] dX7_lagNow_6 rfl (by decide) rfl ?_
  refine G_iconst (pc := 7) dX7_lagNow_7 ?_
  refine G_istore_e (pc := 8) (fun zw => [(4, .int (zI zw)), (3, .int (zI (Q 4 g 0 * 4 + p))), (0, .ref (ad (40, 0, 0, 0))), (1, .int (zI g)), (2, .int (zI p))]) dX7_lagNow_8 (by decide) (fun _ => rfl) (fun v8 e8 => ?_)
  refine G_aload_n (pc := 10) 0 2 dX7_lagNow_10 rfl rfl ?_
  refine G_iload_n (pc := 11) 3 1 dX7_lagNow_11 rfl rfl ?_
  refine G_callVd (pc := 12) gk_X7_158 dX7_lagNow_12 mg_40 rfl (c_X7_stableNow (Q := Q) (by first | assumption | omega | exact ⟨by omega, by omega⟩ | exact hS _ _ | exact hT _ _) (by first | assumption | omega | exact ⟨by omega, by omega⟩ | exact hS _ _ | exact hT _ _) (by first | assumption | omega | exact ⟨by omega, by omega⟩ | exact hS _ _ | exact hT _ _)) rfl rfl (Nat.le_of_ble_eq_true rfl) ⟨⟨Nat.le_of_ble_eq_true rfl, Nat.le_of_ble_eq_true rfl⟩, Nat.le_of_ble_eq_true rfl, Nat.le_of_ble_eq_true rfl⟩ ?_
  have hb12 := fi_le (Q := mEq S (Q 4 g 0 * 4 + p)) (a := 0) (n := S (48, 0, 0, 0) (Q 4 g 0 * 4 + p)) (hV.b48 (Q 4 g 0 * 4 + p)).1
  have hb12 : 0 ≤ mEn S (Q 4 g 0 * 4 + p) ∧ mEn S (Q 4 g 0 * 4 + p) ≤ S (48, 0, 0, 0) (Q 4 g 0 * 4 + p) := hb12
  refine G_istore (pc := 15) [(5, .int (zI (mEn S (Q 4 g 0 * 4 + p)))), (4, .int (zI v8)), (3, .int (zI (Q 4 g 0 * 4 + p))), (0, .ref (ad (40, 0, 0, 0))), (1, .int (zI g)), (2, .int (zI p))] dX7_lagNow_15 (by decide) rfl ?_
  refine G_aload_n (pc := 17) 0 3 dX7_lagNow_17 rfl rfl ?_
  refine G_getf (pc := 18) fl_X7_69 dX7_lagNow_18 mg_40 rfl ?_
  refine G_iload_n (pc := 21) 1 4 dX7_lagNow_21 rfl rfl ?_
  refine G_iconst (pc := 22) dX7_lagNow_22 ?_
  refine G_imul (pc := 23) dX7_lagNow_23 ?_
  refine G_iload_n (pc := 24) 2 5 dX7_lagNow_24 rfl rfl ?_
  refine G_iadd (pc := 25) dX7_lagNow_25 ?_
  refine G_iald (pc := 26) dX7_lagNow_26 mg_65 ⟨by omega, by omega, by omega, by omega⟩ ?_
  have hb26 := hV.b65 ((g * 4) + p)
  refine G_istore (pc := 27) [(6, .int (zI (S (65, 0, 0, 0) ((g * 4) + p)))), (5, .int (zI (mEn S (Q 4 g 0 * 4 + p)))), (4, .int (zI v8)), (3, .int (zI (Q 4 g 0 * 4 + p))), (0, .ref (ad (40, 0, 0, 0))), (1, .int (zI g)), (2, .int (zI p))] dX7_lagNow_27 (by decide) rfl ?_
  have L29 : ∀ (n : Nat) (k : Int) (o : Int), ((0 ≤ o ∧ (o ≤ mEn S (Q 4 g 0 * 4 + p) ∨ o = S (65, 0, 0, 0) (g * 4 + p))) ∧ k + sm (fun o => if mlq Q S g p o then 1 else 0) o (mEn S (Q 4 g 0 * 4 + p)) = mlg Q S g p) → (mEn S (Q 4 g 0 * 4 + p) - o).toNat < n → G Γ (zRm 3 0 0) cX7_lagNow 9 RX7 ad (mm (z_d Γ) ad P S X) 0 0 29 [(0, .ref (ad (40, 0, 0, 0))), (1, .int (zI g)), (2, .int (zI p)), (3, .int (zI (Q 4 g 0 * 4 + p))), (4, .int (zI k)), (5, .int (zI (mEn S (Q 4 g 0 * 4 + p)))), (6, .int (zI o))] [] := by
    intro n
    induction n with
    | zero => intro k o _ hn; omega
    | succ n ih29 =>
      intro k o hi29 hn29
      refine G_iload (pc := 29) 6 dX7_lagNow_29 rfl ?_
      refine G_iload (pc := 31) 5 dX7_lagNow_31 rfl ?_
      refine G_icmp_ge (pc := 33) 106 dX7_lagNow_33 (by decide) (by first | exact hS _ _ | exact hT _ _ | exact ⟨by omega, by omega⟩ | assumption | exact zWM.r (by assumption) _ _ (by decide)) (by first | exact hS _ _ | exact hT _ _ | exact ⟨by omega, by omega⟩ | assumption | exact zWM.r (by assumption) _ _ (by decide)) (fun c33 => ?_) (fun c33 => ?_)
      · refine G_iload (pc := 106) 4 dX7_lagNow_106 rfl ?_
        exact G_iret_d (pc := 108) hF dX7_lagNow_108 ⟨Nat.le_of_ble_eq_true rfl, Nat.le_of_ble_eq_true rfl⟩ (by rw [← hi29.2, sm_end (by omega)]; omega)
      · refine G_aload_n (pc := 36) 0 0 dX7_lagNow_36 rfl rfl ?_
        refine G_iload_n (pc := 37) 3 3 dX7_lagNow_37 rfl rfl ?_
        refine G_iload (pc := 38) 6 dX7_lagNow_38 rfl ?_
        refine G_callVd (pc := 40) gk_X7_113 dX7_lagNow_40 mg_40 rfl (c_X7_messageAt (Q := Q) (by first | assumption | omega | exact ⟨by omega, by omega⟩ | exact hS _ _ | exact hT _ _) (by first | assumption | omega | exact ⟨by omega, by omega⟩ | exact hS _ _ | exact hT _ _) (by first | assumption | omega | exact ⟨by omega, by omega⟩ | exact hS _ _ | exact hT _ _)) rfl rfl (Nat.le_of_ble_eq_true rfl) ⟨⟨Nat.le_of_ble_eq_true rfl, Nat.le_of_ble_eq_true rfl⟩, Nat.le_of_ble_eq_true rfl, Nat.le_of_ble_eq_true rfl⟩ ?_
        have hb40 := hV.b59 ((Q 4 g 0 * 4 + p) * 80 + o)
        refine G_istore (pc := 43) [(7, .int (zI (S (59, 0, 0, 0) ((Q 4 g 0 * 4 + p) * 80 + o)))), (0, .ref (ad (40, 0, 0, 0))), (1, .int (zI g)), (2, .int (zI p)), (3, .int (zI (Q 4 g 0 * 4 + p))), (4, .int (zI k)), (5, .int (zI (mEn S (Q 4 g 0 * 4 + p)))), (6, .int (zI o))] dX7_lagNow_43 (by decide) rfl ?_
        refine G_aload_n (pc := 45) 0 1 dX7_lagNow_45 rfl rfl ?_
        refine G_getf (pc := 46) fl_X7_81 dX7_lagNow_46 mg_40 rfl ?_
        refine G_iload_n (pc := 49) 1 2 dX7_lagNow_49 rfl rfl ?_
        refine G_bipush (pc := 50) dX7_lagNow_50 (by decide) ?_
        refine G_imul (pc := 52) dX7_lagNow_52 ?_
        refine G_iload (pc := 53) 0 dX7_lagNow_53 rfl ?_
        refine G_iadd (pc := 55) dX7_lagNow_55 ?_
        refine G_iald (pc := 56) dX7_lagNow_56 mg_69 ⟨by omega, by omega, by omega, by omega⟩ ?_
        have hb56 := hV.b69 ((g * 80) + (S (59, 0, 0, 0) ((Q 4 g 0 * 4 + p) * 80 + o)))
        refine G_istore (pc := 57) [(8, .int (zI (S (69, 0, 0, 0) ((g * 80) + (S (59, 0, 0, 0) ((Q 4 g 0 * 4 + p) * 80 + o)))))), (7, .int (zI (S (59, 0, 0, 0) ((Q 4 g 0 * 4 + p) * 80 + o)))), (0, .ref (ad (40, 0, 0, 0))), (1, .int (zI g)), (2, .int (zI p)), (3, .int (zI (Q 4 g 0 * 4 + p))), (4, .int (zI k)), (5, .int (zI (mEn S (Q 4 g 0 * 4 + p)))), (6, .int (zI o))] dX7_lagNow_57 (by decide) rfl ?_
        refine G_iload (pc := 59) 6 dX7_lagNow_59 rfl ?_
        refine G_aload_n (pc := 61) 0 2 dX7_lagNow_61 rfl rfl ?_
        refine G_iload (pc := 62) 1 dX7_lagNow_62 rfl ?_
        refine G_callVd (pc := 64) gk_X7_117 dX7_lagNow_64 mg_40 rfl (c_X7_seen (Q := Q) (by first | assumption | omega | exact ⟨by omega, by omega⟩ | exact hS _ _ | exact hT _ _) (by first | assumption | omega | exact ⟨by omega, by omega⟩ | exact hS _ _ | exact hT _ _) (by first | assumption | omega | exact ⟨by omega, by omega⟩ | exact hS _ _ | exact hT _ _)) rfl rfl (Nat.le_of_ble_eq_true rfl) ⟨⟨Nat.le_of_ble_eq_true rfl, Nat.le_of_ble_eq_true rfl⟩, Nat.le_of_ble_eq_true rfl, Nat.le_of_ble_eq_true rfl⟩ ?_
        have hb64 := mS_le (S := S) (m := (S (59, 0, 0, 0) ((Q 4 g 0 * 4 + p) * 80 + o)))
        refine G_if_ne (pc := 67) 96 dX7_lagNow_67 (by decide) (by first | exact hS _ _ | exact hT _ _ | exact ⟨by omega, by omega⟩ | assumption | exact zWM.r (by assumption) _ _ (by decide)) (fun c67 => ?_) (fun c67 => ?_)
        · refine G_iconst (pc := 96) dX7_lagNow_96 ?_
          refine G_iadd (pc := 97) dX7_lagNow_97 ?_
          refine G_istore_e (pc := 98) (fun zw => [(4, .int (zI zw)), (8, .int (zI (S (69, 0, 0, 0) ((g * 80) + (S (59, 0, 0, 0) ((Q 4 g 0 * 4 + p) * 80 + o)))))), (7, .int (zI (S (59, 0, 0, 0) ((Q 4 g 0 * 4 + p) * 80 + o)))), (0, .ref (ad (40, 0, 0, 0))), (1, .int (zI g)), (2, .int (zI p)), (3, .int (zI (Q 4 g 0 * 4 + p))), (5, .int (zI (mEn S (Q 4 g 0 * 4 + p)))), (6, .int (zI o))]) dX7_lagNow_98 (by decide) (fun _ => rfl) (fun v98 e98 => ?_)
          refine G_iinc_e (pc := 100) 8 (fun zw => [(6, .int (zI zw)), (4, .int (zI v98)), (8, .int (zI (S (69, 0, 0, 0) ((g * 80) + (S (59, 0, 0, 0) ((Q 4 g 0 * 4 + p) * 80 + o)))))), (7, .int (zI (S (59, 0, 0, 0) ((Q 4 g 0 * 4 + p) * 80 + o)))), (0, .ref (ad (40, 0, 0, 0))), (1, .int (zI g)), (2, .int (zI p)), (3, .int (zI (Q 4 g 0 * 4 + p))), (5, .int (zI (mEn S (Q 4 g 0 * 4 + p))))]) dX7_lagNow_100 rfl (by decide) (fun _ => rfl) (fun v100 e100 => ?_)
          refine G_goto (pc := 103) 29 dX7_lagNow_103 (by decide) ?_
          refine G_perm (lv' := [(0, .ref (ad (40, 0, 0, 0))), (1, .int (zI g)), (2, .int (zI p)), (3, .int (zI (Q 4 g 0 * 4 + p))), (4, .int (zI v98)), (5, .int (zI (mEn S (Q 4 g 0 * 4 + p)))), (6, .int (zI v100))]) [4, 5, 6, 7, 1, 8, 0] rfl ?_
          exact ih29 v98 v100  ⟨by omega, by rw [← hi29.2, sm_step (a := o) (n := mEn S (Q 4 g 0 * 4 + p)) (by omega), e100]; first | (rw [if_pos (c := mlq Q S g p o) ⟨⟨c67, c77⟩, c83, c89⟩]; omega) | (rw [if_neg (c := mlq Q S g p o) (fun h => c67 h.1.1)]; omega) | (rw [if_neg (c := mlq Q S g p o) (fun h => c77 h.1.2)]; omega) | (rw [if_neg (c := mlq Q S g p o) (fun h => h.2.1 c83)]; omega) | (rw [if_neg (c := mlq Q S g p o) (fun h => h.2.2 c89)]; omega)⟩ (by omega)
        · refine G_aload_n (pc := 70) 0 2 dX7_lagNow_70 rfl rfl ?_
          refine G_getf (pc := 71) fl_X7_54 dX7_lagNow_71 mg_40 rfl ?_
          refine G_iload (pc := 74) 1 dX7_lagNow_74 rfl ?_
          refine G_zald (pc := 76) dX7_lagNow_76 mg_58 ⟨by omega, by omega, by omega, by omega⟩ ?_
          have hb76 := hV.b58 (S (59, 0, 0, 0) ((Q 4 g 0 * 4 + p) * 80 + o))
          refine G_if_ne (pc := 77) 96 dX7_lagNow_77 (by decide) (by first | exact hS _ _ | exact hT _ _ | exact ⟨by omega, by omega⟩ | assumption | exact zWM.r (by assumption) _ _ (by decide)) (fun c77 => ?_) (fun c77 => ?_)
          · refine G_iconst (pc := 96) dX7_lagNow_96 ?_
            refine G_iadd (pc := 97) dX7_lagNow_97 ?_
            refine G_istore_e (pc := 98) (fun zw => [(4, .int (zI zw)), (8, .int (zI (S (69, 0, 0, 0) ((g * 80) + (S (59, 0, 0, 0) ((Q 4 g 0 * 4 + p) * 80 + o)))))), (7, .int (zI (S (59, 0, 0, 0) ((Q 4 g 0 * 4 + p) * 80 + o)))), (0, .ref (ad (40, 0, 0, 0))), (1, .int (zI g)), (2, .int (zI p)), (3, .int (zI (Q 4 g 0 * 4 + p))), (5, .int (zI (mEn S (Q 4 g 0 * 4 + p)))), (6, .int (zI o))]) dX7_lagNow_98 (by decide) (fun _ => rfl) (fun v98 e98 => ?_)
            refine G_iinc_e (pc := 100) 8 (fun zw => [(6, .int (zI zw)), (4, .int (zI v98)), (8, .int (zI (S (69, 0, 0, 0) ((g * 80) + (S (59, 0, 0, 0) ((Q 4 g 0 * 4 + p) * 80 + o)))))), (7, .int (zI (S (59, 0, 0, 0) ((Q 4 g 0 * 4 + p) * 80 + o)))), (0, .ref (ad (40, 0, 0, 0))), (1, .int (zI g)), (2, .int (zI p)), (3, .int (zI (Q 4 g 0 * 4 + p))), (5, .int (zI (mEn S (Q 4 g 0 * 4 + p))))]) dX7_lagNow_100 rfl (by decide) (fun _ => rfl) (fun v100 e100 => ?_)
            refine G_goto (pc := 103) 29 dX7_lagNow_103 (by decide) ?_
            refine G_perm (lv' := [(0, .ref (ad (40, 0, 0, 0))), (1, .int (zI g)), (2, .int (zI p)), (3, .int (zI (Q 4 g 0 * 4 + p))), (4, .int (zI v98)), (5, .int (zI (mEn S (Q 4 g 0 * 4 + p)))), (6, .int (zI v100))]) [4, 5, 6, 7, 1, 8, 0] rfl ?_
            exact ih29 v98 v100  ⟨by omega, by rw [← hi29.2, sm_step (a := o) (n := mEn S (Q 4 g 0 * 4 + p)) (by omega), e100]; first | (rw [if_pos (c := mlq Q S g p o) ⟨⟨c67, c77⟩, c83, c89⟩]; omega) | (rw [if_neg (c := mlq Q S g p o) (fun h => c67 h.1.1)]; omega) | (rw [if_neg (c := mlq Q S g p o) (fun h => c77 h.1.2)]; omega) | (rw [if_neg (c := mlq Q S g p o) (fun h => h.2.1 c83)]; omega) | (rw [if_neg (c := mlq Q S g p o) (fun h => h.2.2 c89)]; omega)⟩ (by omega)
          · refine G_iload (pc := 80) 0 dX7_lagNow_80 rfl ?_
            refine G_iconst (pc := 82) dX7_lagNow_82 ?_
            refine G_icmp_eq (pc := 83) 96 dX7_lagNow_83 (by decide) (by first | exact hS _ _ | exact hT _ _ | exact ⟨by omega, by omega⟩ | assumption | exact zWM.r (by assumption) _ _ (by decide)) (by first | exact hS _ _ | exact hT _ _ | exact ⟨by omega, by omega⟩ | assumption | exact zWM.r (by assumption) _ _ (by decide)) (fun c83 => ?_) (fun c83 => ?_)
            · refine G_iconst (pc := 96) dX7_lagNow_96 ?_
              refine G_iadd (pc := 97) dX7_lagNow_97 ?_
              refine G_istore_e (pc := 98) (fun zw => [(4, .int (zI zw)), (8, .int (zI (S (69, 0, 0, 0) ((g * 80) + (S (59, 0, 0, 0) ((Q 4 g 0 * 4 + p) * 80 + o)))))), (7, .int (zI (S (59, 0, 0, 0) ((Q 4 g 0 * 4 + p) * 80 + o)))), (0, .ref (ad (40, 0, 0, 0))), (1, .int (zI g)), (2, .int (zI p)), (3, .int (zI (Q 4 g 0 * 4 + p))), (5, .int (zI (mEn S (Q 4 g 0 * 4 + p)))), (6, .int (zI o))]) dX7_lagNow_98 (by decide) (fun _ => rfl) (fun v98 e98 => ?_)
              refine G_iinc_e (pc := 100) 8 (fun zw => [(6, .int (zI zw)), (4, .int (zI v98)), (8, .int (zI (S (69, 0, 0, 0) ((g * 80) + (S (59, 0, 0, 0) ((Q 4 g 0 * 4 + p) * 80 + o)))))), (7, .int (zI (S (59, 0, 0, 0) ((Q 4 g 0 * 4 + p) * 80 + o)))), (0, .ref (ad (40, 0, 0, 0))), (1, .int (zI g)), (2, .int (zI p)), (3, .int (zI (Q 4 g 0 * 4 + p))), (5, .int (zI (mEn S (Q 4 g 0 * 4 + p))))]) dX7_lagNow_100 rfl (by decide) (fun _ => rfl) (fun v100 e100 => ?_)
              refine G_goto (pc := 103) 29 dX7_lagNow_103 (by decide) ?_
              refine G_perm (lv' := [(0, .ref (ad (40, 0, 0, 0))), (1, .int (zI g)), (2, .int (zI p)), (3, .int (zI (Q 4 g 0 * 4 + p))), (4, .int (zI v98)), (5, .int (zI (mEn S (Q 4 g 0 * 4 + p)))), (6, .int (zI v100))]) [4, 5, 6, 7, 1, 8, 0] rfl ?_
              exact ih29 v98 v100  ⟨by omega, by rw [← hi29.2, sm_step (a := o) (n := mEn S (Q 4 g 0 * 4 + p)) (by omega), e100]; first | (rw [if_pos (c := mlq Q S g p o) ⟨⟨c67, c77⟩, c83, c89⟩]; omega) | (rw [if_neg (c := mlq Q S g p o) (fun h => c67 h.1.1)]; omega) | (rw [if_neg (c := mlq Q S g p o) (fun h => c77 h.1.2)]; omega) | (rw [if_neg (c := mlq Q S g p o) (fun h => h.2.1 c83)]; omega) | (rw [if_neg (c := mlq Q S g p o) (fun h => h.2.2 c89)]; omega)⟩ (by omega)
            · refine G_iload (pc := 86) 0 dX7_lagNow_86 rfl ?_
              refine G_iconst (pc := 88) dX7_lagNow_88 ?_
              refine G_icmp_eq (pc := 89) 96 dX7_lagNow_89 (by decide) (by first | exact hS _ _ | exact hT _ _ | exact ⟨by omega, by omega⟩ | assumption | exact zWM.r (by assumption) _ _ (by decide)) (by first | exact hS _ _ | exact hT _ _ | exact ⟨by omega, by omega⟩ | assumption | exact zWM.r (by assumption) _ _ (by decide)) (fun c89 => ?_) (fun c89 => ?_)
              · refine G_iconst (pc := 96) dX7_lagNow_96 ?_
                refine G_iadd (pc := 97) dX7_lagNow_97 ?_
                refine G_istore_e (pc := 98) (fun zw => [(4, .int (zI zw)), (8, .int (zI (S (69, 0, 0, 0) ((g * 80) + (S (59, 0, 0, 0) ((Q 4 g 0 * 4 + p) * 80 + o)))))), (7, .int (zI (S (59, 0, 0, 0) ((Q 4 g 0 * 4 + p) * 80 + o)))), (0, .ref (ad (40, 0, 0, 0))), (1, .int (zI g)), (2, .int (zI p)), (3, .int (zI (Q 4 g 0 * 4 + p))), (5, .int (zI (mEn S (Q 4 g 0 * 4 + p)))), (6, .int (zI o))]) dX7_lagNow_98 (by decide) (fun _ => rfl) (fun v98 e98 => ?_)
                refine G_iinc_e (pc := 100) 8 (fun zw => [(6, .int (zI zw)), (4, .int (zI v98)), (8, .int (zI (S (69, 0, 0, 0) ((g * 80) + (S (59, 0, 0, 0) ((Q 4 g 0 * 4 + p) * 80 + o)))))), (7, .int (zI (S (59, 0, 0, 0) ((Q 4 g 0 * 4 + p) * 80 + o)))), (0, .ref (ad (40, 0, 0, 0))), (1, .int (zI g)), (2, .int (zI p)), (3, .int (zI (Q 4 g 0 * 4 + p))), (5, .int (zI (mEn S (Q 4 g 0 * 4 + p))))]) dX7_lagNow_100 rfl (by decide) (fun _ => rfl) (fun v100 e100 => ?_)
                refine G_goto (pc := 103) 29 dX7_lagNow_103 (by decide) ?_
                refine G_perm (lv' := [(0, .ref (ad (40, 0, 0, 0))), (1, .int (zI g)), (2, .int (zI p)), (3, .int (zI (Q 4 g 0 * 4 + p))), (4, .int (zI v98)), (5, .int (zI (mEn S (Q 4 g 0 * 4 + p)))), (6, .int (zI v100))]) [4, 5, 6, 7, 1, 8, 0] rfl ?_
                exact ih29 v98 v100  ⟨by omega, by rw [← hi29.2, sm_step (a := o) (n := mEn S (Q 4 g 0 * 4 + p)) (by omega), e100]; first | (rw [if_pos (c := mlq Q S g p o) ⟨⟨c67, c77⟩, c83, c89⟩]; omega) | (rw [if_neg (c := mlq Q S g p o) (fun h => c67 h.1.1)]; omega) | (rw [if_neg (c := mlq Q S g p o) (fun h => c77 h.1.2)]; omega) | (rw [if_neg (c := mlq Q S g p o) (fun h => h.2.1 c83)]; omega) | (rw [if_neg (c := mlq Q S g p o) (fun h => h.2.2 c89)]; omega)⟩ (by omega)
              · refine G_iconst (pc := 92) dX7_lagNow_92 ?_
                refine G_goto (pc := 93) 97 dX7_lagNow_93 (by decide) ?_
                refine G_iadd (pc := 97) dX7_lagNow_97 ?_
                refine G_istore_e (pc := 98) (fun zw => [(4, .int (zI zw)), (8, .int (zI (S (69, 0, 0, 0) ((g * 80) + (S (59, 0, 0, 0) ((Q 4 g 0 * 4 + p) * 80 + o)))))), (7, .int (zI (S (59, 0, 0, 0) ((Q 4 g 0 * 4 + p) * 80 + o)))), (0, .ref (ad (40, 0, 0, 0))), (1, .int (zI g)), (2, .int (zI p)), (3, .int (zI (Q 4 g 0 * 4 + p))), (5, .int (zI (mEn S (Q 4 g 0 * 4 + p)))), (6, .int (zI o))]) dX7_lagNow_98 (by decide) (fun _ => rfl) (fun v98 e98 => ?_)
                refine G_iinc_e (pc := 100) 8 (fun zw => [(6, .int (zI zw)), (4, .int (zI v98)), (8, .int (zI (S (69, 0, 0, 0) ((g * 80) + (S (59, 0, 0, 0) ((Q 4 g 0 * 4 + p) * 80 + o)))))), (7, .int (zI (S (59, 0, 0, 0) ((Q 4 g 0 * 4 + p) * 80 + o)))), (0, .ref (ad (40, 0, 0, 0))), (1, .int (zI g)), (2, .int (zI p)), (3, .int (zI (Q 4 g 0 * 4 + p))), (5, .int (zI (mEn S (Q 4 g 0 * 4 + p))))]) dX7_lagNow_100 rfl (by decide) (fun _ => rfl) (fun v100 e100 => ?_)
                refine G_goto (pc := 103) 29 dX7_lagNow_103 (by decide) ?_
                refine G_perm (lv' := [(0, .ref (ad (40, 0, 0, 0))), (1, .int (zI g)), (2, .int (zI p)), (3, .int (zI (Q 4 g 0 * 4 + p))), (4, .int (zI v98)), (5, .int (zI (mEn S (Q 4 g 0 * 4 + p)))), (6, .int (zI v100))]) [4, 5, 6, 7, 1, 8, 0] rfl ?_
                exact ih29 v98 v100  ⟨by omega, by rw [← hi29.2, sm_step (a := o) (n := mEn S (Q 4 g 0 * 4 + p)) (by omega), e100]; first | (rw [if_pos (c := mlq Q S g p o) ⟨⟨c67, c77⟩, c83, c89⟩]; omega) | (rw [if_neg (c := mlq Q S g p o) (fun h => c67 h.1.1)]; omega) | (rw [if_neg (c := mlq Q S g p o) (fun h => c77 h.1.2)]; omega) | (rw [if_neg (c := mlq Q S g p o) (fun h => h.2.1 c83)]; omega) | (rw [if_neg (c := mlq Q S g p o) (fun h => h.2.2 c89)]; omega)⟩ (by omega)
  refine G_perm (lv' := [(0, .ref (ad (40, 0, 0, 0))), (1, .int (zI g)), (2, .int (zI p)), (3, .int (zI (Q 4 g 0 * 4 + p))), (4, .int (zI v8)), (5, .int (zI (mEn S (Q 4 g 0 * 4 + p)))), (6, .int (zI (S (65, 0, 0, 0) ((g * 4) + p))))]) [4, 5, 6, 3, 2, 1, 0] rfl ?_
  exact L29 _ v8 (S (65, 0, 0, 0) ((g * 4) + p))  ⟨by omega, by rw [e8]; exact Int.zero_add _⟩ (Nat.lt_succ_self _)
set_option maxHeartbeats 4000000 in
set_option maxRecDepth 100000 in
theorem c_X7_gives {l : Launch} {Δ : zDl} {ad : zK → Nat} {P : zP} {S : zS} {X : zMem} {Q : zP} {g p : Int} (hV : zWM Q S) (hg : 0 ≤ g ∧ g < Q 3 0 0) (hp : 0 ≤ p ∧ p < Q 1 (Q 4 g 0) 0) (h61 : Q 61 0 0 = P 61 0 0) : zMn l Δ yX7_gives cX7_gives 7 (some .int) 3 0 0 [.ref (ad (40, 0, 0, 0)), .int (zI g), .int (zI p)] ad (mm Δ ad P S X) (zD (some (.int (zI (mgv Q S g p)))) ad (mm Δ ad P S X)) := by
  refine zMn_of (by decide) (Nat.le_of_ble_eq_true rfl) (fun Γ hl hΔ hF => ?_)
  subst hl hΔ
  show G Γ _ _ _ RX7 _ _ _ _ _ [(0, .ref (ad (40, 0, 0, 0))), (1, .int (zI g)), (2, .int (zI p))] []
  have hq := hV.q
  have hqg := hV.qg hg
  have hqt := hV.qt hqg
  have hgt := hV.gt hg
  have hgn := hV.gn hg
  have hqm := hV.qm hqg hp
  have hen := hV.en hqg hp
  have hk := hV.b65 (g * 4 + p)
  have hk6 := hV.b66 (g * 4 + p)
  have he9 := fi_le (Q := mEq S (Q 4 g 0 * 4 + p)) (a := 0) (n := S (48, 0, 0, 0) (Q 4 g 0 * 4 + p)) (hV.b48 _).1
  have he : 0 ≤ mEn S (Q 4 g 0 * 4 + p) ∧ mEn S (Q 4 g 0 * 4 + p) ≤ S (48, 0, 0, 0) (Q 4 g 0 * 4 + p) := he9
  have h1 := hV.f1
  refine G_aload_n (pc := 0) 0 0 dX7_gives_0 rfl rfl ?_
  refine G_iload_n (pc := 1) 1 1 dX7_gives_1 rfl rfl ?_
  refine G_iload_n (pc := 2) 2 2 dX7_gives_2 rfl rfl ?_
  refine G_callVd (pc := 3) gk_X7_201 dX7_gives_3 mg_40 rfl (c_X7_whereOf (Q := Q) (by first | assumption | omega | exact ⟨by omega, by omega⟩ | exact hS _ _ | exact hT _ _) (by first | assumption | omega | exact ⟨by omega, by omega⟩ | exact hS _ _ | exact hT _ _)) rfl rfl (Nat.le_of_ble_eq_true rfl) ⟨⟨Nat.le_of_ble_eq_true rfl, Nat.le_of_ble_eq_true rfl⟩, Nat.le_of_ble_eq_true rfl, Nat.le_of_ble_eq_true rfl⟩ ?_
  refine G_istore_n (pc := 6) 3 [(3, .int (zI (Q 4 g 0 * 4 + p))), (0, .ref (ad (40, 0, 0, 0))), (1, .int (zI g)), (2, .int (zI p))] dX7_gives_6 rfl (by decide) rfl ?_
  refine G_aload_n (pc := 7) 0 1 dX7_gives_7 rfl rfl ?_
  refine G_iload_n (pc := 8) 3 0 dX7_gives_8 rfl rfl ?_
  refine G_callVd (pc := 9) gk_X7_158 dX7_gives_9 mg_40 rfl (c_X7_stableNow (Q := Q) (by first | assumption | omega | exact ⟨by omega, by omega⟩ | exact hS _ _ | exact hT _ _) (by first | assumption | omega | exact ⟨by omega, by omega⟩ | exact hS _ _ | exact hT _ _) (by first | assumption | omega | exact ⟨by omega, by omega⟩ | exact hS _ _ | exact hT _ _)) rfl rfl (Nat.le_of_ble_eq_true rfl) ⟨⟨Nat.le_of_ble_eq_true rfl, Nat.le_of_ble_eq_true rfl⟩, Nat.le_of_ble_eq_true rfl, Nat.le_of_ble_eq_true rfl⟩ ?_
  have hb9 := fi_le (Q := mEq S (Q 4 g 0 * 4 + p)) (a := 0) (n := S (48, 0, 0, 0) (Q 4 g 0 * 4 + p)) (hV.b48 (Q 4 g 0 * 4 + p)).1
  have hb9 : 0 ≤ mEn S (Q 4 g 0 * 4 + p) ∧ mEn S (Q 4 g 0 * 4 + p) ≤ S (48, 0, 0, 0) (Q 4 g 0 * 4 + p) := hb9
  refine G_istore (pc := 12) [(4, .int (zI (mEn S (Q 4 g 0 * 4 + p)))), (3, .int (zI (Q 4 g 0 * 4 + p))), (0, .ref (ad (40, 0, 0, 0))), (1, .int (zI g)), (2, .int (zI p))] dX7_gives_12 (by decide) rfl ?_
  refine G_aload_n (pc := 14) 0 2 dX7_gives_14 rfl rfl ?_
  refine G_getf (pc := 15) fl_X7_69 dX7_gives_15 mg_40 rfl ?_
  refine G_iload_n (pc := 18) 1 3 dX7_gives_18 rfl rfl ?_
  refine G_iconst (pc := 19) dX7_gives_19 ?_
  refine G_imul (pc := 20) dX7_gives_20 ?_
  refine G_iload_n (pc := 21) 2 4 dX7_gives_21 rfl rfl ?_
  refine G_iadd (pc := 22) dX7_gives_22 ?_
  refine G_iald (pc := 23) dX7_gives_23 mg_65 ⟨by omega, by omega, by omega, by omega⟩ ?_
  have hb23 := hV.b65 ((g * 4) + p)
  refine G_istore (pc := 24) [(5, .int (zI (S (65, 0, 0, 0) ((g * 4) + p)))), (4, .int (zI (mEn S (Q 4 g 0 * 4 + p)))), (3, .int (zI (Q 4 g 0 * 4 + p))), (0, .ref (ad (40, 0, 0, 0))), (1, .int (zI g)), (2, .int (zI p))] dX7_gives_24 (by decide) rfl ?_
  have L26 : ∀ (n : Nat) (o : Int), ((0 ≤ o ∧ (o ≤ Q 2 (Q 4 g 0) p ∨ o = S (65, 0, 0, 0) (g * 4 + p))) ∧ fi (mg1 Q S g p) o (Q 2 (Q 4 g 0) p) = fi (mg1 Q S g p) (S (65, 0, 0, 0) (g * 4 + p)) (Q 2 (Q 4 g 0) p)) → (Q 2 (Q 4 g 0) p - o).toNat < n → G Γ (zRm 3 0 0) cX7_gives 7 RX7 ad (mm (z_d Γ) ad P S X) 0 0 26 [(0, .ref (ad (40, 0, 0, 0))), (1, .int (zI g)), (2, .int (zI p)), (3, .int (zI (Q 4 g 0 * 4 + p))), (4, .int (zI (mEn S (Q 4 g 0 * 4 + p)))), (5, .int (zI o))] [] := by
    intro n
    induction n with
    | zero => intro o _ hn; omega
    | succ n ih26 =>
      intro o hi26 hn26
      refine G_iload (pc := 26) 5 dX7_gives_26 rfl ?_
      refine G_aload_n (pc := 28) 0 0 dX7_gives_28 rfl rfl ?_
      refine G_getf (pc := 29) fl_X7_26 dX7_gives_29 mg_40 rfl ?_
      refine G_iload_n (pc := 32) 3 3 dX7_gives_32 rfl rfl ?_
      refine G_iald (pc := 33) dX7_gives_33 mg_48 ⟨by omega, by omega, by omega, by omega⟩ ?_
      have hb33 := hV.b48 (Q 4 g 0 * 4 + p)
      refine G_icmp_ge (pc := 34) 90 dX7_gives_34 (by decide) (by first | exact hS _ _ | exact hT _ _ | exact ⟨by omega, by omega⟩ | assumption | exact zWM.r (by assumption) _ _ (by decide)) (by first | exact hS _ _ | exact hT _ _ | exact ⟨by omega, by omega⟩ | assumption | exact zWM.r (by assumption) _ _ (by decide)) (fun c34 => ?_) (fun c34 => ?_)
      · refine G_aload_n (pc := 90) 0 0 dX7_gives_90 rfl rfl ?_
        refine G_getf (pc := 91) fl_X7_72 dX7_gives_91 mg_40 rfl ?_
        refine G_iload_n (pc := 94) 1 1 dX7_gives_94 rfl rfl ?_
        refine G_iconst (pc := 95) dX7_gives_95 ?_
        refine G_imul (pc := 96) dX7_gives_96 ?_
        refine G_iload_n (pc := 97) 2 2 dX7_gives_97 rfl rfl ?_
        refine G_iadd (pc := 98) dX7_gives_98 ?_
        refine G_iald (pc := 99) dX7_gives_99 mg_66 ⟨by omega, by omega, by omega, by omega⟩ ?_
        have hb99 := hV.b66 ((g * 4) + p)
        refine G_istore (pc := 100) [(5, .int (zI (S (66, 0, 0, 0) ((g * 4) + p)))), (0, .ref (ad (40, 0, 0, 0))), (1, .int (zI g)), (2, .int (zI p)), (3, .int (zI (Q 4 g 0 * 4 + p))), (4, .int (zI (mEn S (Q 4 g 0 * 4 + p))))] dX7_gives_100 (by decide) rfl ?_
        have L102 : ∀ (n : Nat) (o2 : Int), ((0 ≤ o2 ∧ (o2 ≤ mEn S (Q 4 g 0 * 4 + p) ∨ o2 = S (66, 0, 0, 0) (g * 4 + p))) ∧ fi (mg2 Q S g p) o2 (mEn S (Q 4 g 0 * 4 + p)) = fi (mg2 Q S g p) (S (66, 0, 0, 0) (g * 4 + p)) (mEn S (Q 4 g 0 * 4 + p))) → (mEn S (Q 4 g 0 * 4 + p) - o2).toNat < n → G Γ (zRm 3 0 0) cX7_gives 7 RX7 ad (mm (z_d Γ) ad P S X) 0 0 102 [(0, .ref (ad (40, 0, 0, 0))), (1, .int (zI g)), (2, .int (zI p)), (3, .int (zI (Q 4 g 0 * 4 + p))), (4, .int (zI (mEn S (Q 4 g 0 * 4 + p)))), (5, .int (zI o2))] [] := by
          intro n
          induction n with
          | zero => intro o2 _ hn; omega
          | succ n ih102 =>
            intro o2 hi102 hn102
            refine G_iload (pc := 102) 5 dX7_gives_102 rfl ?_
            refine G_iload (pc := 104) 4 dX7_gives_104 rfl ?_
            refine G_icmp_ge (pc := 106) 161 dX7_gives_106 (by decide) (by first | exact hS _ _ | exact hT _ _ | exact ⟨by omega, by omega⟩ | assumption | exact zWM.r (by assumption) _ _ (by decide)) (by first | exact hS _ _ | exact hT _ _ | exact ⟨by omega, by omega⟩ | assumption | exact zWM.r (by assumption) _ _ (by decide)) (fun c106 => ?_) (fun c106 => ?_)
            · refine G_iconst (pc := 161) dX7_gives_161 ?_
              exact G_iret_d (pc := 162) hF dX7_gives_162 ⟨Nat.le_of_ble_eq_true rfl, Nat.le_of_ble_eq_true rfl⟩ (by unfold mgv; rw [if_neg (by rw [← hi26.2, fi_end (by omega)]; omega), ← hi102.2, fi_end (by omega), if_neg (by omega)])
            · refine G_aload_n (pc := 109) 0 0 dX7_gives_109 rfl rfl ?_
              refine G_iload_n (pc := 110) 3 3 dX7_gives_110 rfl rfl ?_
              refine G_iload (pc := 111) 5 dX7_gives_111 rfl ?_
              refine G_callVd (pc := 113) gk_X7_113 dX7_gives_113 mg_40 rfl (c_X7_messageAt (Q := Q) (by first | assumption | omega | exact ⟨by omega, by omega⟩ | exact hS _ _ | exact hT _ _) (by first | assumption | omega | exact ⟨by omega, by omega⟩ | exact hS _ _ | exact hT _ _) (by first | assumption | omega | exact ⟨by omega, by omega⟩ | exact hS _ _ | exact hT _ _)) rfl rfl (Nat.le_of_ble_eq_true rfl) ⟨⟨Nat.le_of_ble_eq_true rfl, Nat.le_of_ble_eq_true rfl⟩, Nat.le_of_ble_eq_true rfl, Nat.le_of_ble_eq_true rfl⟩ ?_
              have hb113 := hV.b59 ((Q 4 g 0 * 4 + p) * 80 + o2)
              refine G_istore (pc := 116) [(6, .int (zI (S (59, 0, 0, 0) ((Q 4 g 0 * 4 + p) * 80 + o2)))), (0, .ref (ad (40, 0, 0, 0))), (1, .int (zI g)), (2, .int (zI p)), (3, .int (zI (Q 4 g 0 * 4 + p))), (4, .int (zI (mEn S (Q 4 g 0 * 4 + p)))), (5, .int (zI o2))] dX7_gives_116 (by decide) rfl ?_
              refine G_aload_n (pc := 118) 0 1 dX7_gives_118 rfl rfl ?_
              refine G_iload (pc := 119) 0 dX7_gives_119 rfl ?_
              refine G_callVd (pc := 121) gk_X7_117 dX7_gives_121 mg_40 rfl (c_X7_seen (Q := Q) (by first | assumption | omega | exact ⟨by omega, by omega⟩ | exact hS _ _ | exact hT _ _) (by first | assumption | omega | exact ⟨by omega, by omega⟩ | exact hS _ _ | exact hT _ _) (by first | assumption | omega | exact ⟨by omega, by omega⟩ | exact hS _ _ | exact hT _ _)) rfl rfl (Nat.le_of_ble_eq_true rfl) ⟨⟨Nat.le_of_ble_eq_true rfl, Nat.le_of_ble_eq_true rfl⟩, Nat.le_of_ble_eq_true rfl, Nat.le_of_ble_eq_true rfl⟩ ?_
              have hb121 := mS_le (S := S) (m := (S (59, 0, 0, 0) ((Q 4 g 0 * 4 + p) * 80 + o2)))
              refine G_if_ne (pc := 124) 155 dX7_gives_124 (by decide) (by first | exact hS _ _ | exact hT _ _ | exact ⟨by omega, by omega⟩ | assumption | exact zWM.r (by assumption) _ _ (by decide)) (fun c124 => ?_) (fun c124 => ?_)
              · refine G_iinc_e (pc := 155) 6 (fun zw => [(5, .int (zI zw)), (6, .int (zI (S (59, 0, 0, 0) ((Q 4 g 0 * 4 + p) * 80 + o2)))), (0, .ref (ad (40, 0, 0, 0))), (1, .int (zI g)), (2, .int (zI p)), (3, .int (zI (Q 4 g 0 * 4 + p))), (4, .int (zI (mEn S (Q 4 g 0 * 4 + p))))]) dX7_gives_155 rfl (by decide) (fun _ => rfl) (fun v155 e155 => ?_)
                refine G_goto (pc := 158) 102 dX7_gives_158 (by decide) ?_
                refine G_perm (lv' := [(0, .ref (ad (40, 0, 0, 0))), (1, .int (zI g)), (2, .int (zI p)), (3, .int (zI (Q 4 g 0 * 4 + p))), (4, .int (zI (mEn S (Q 4 g 0 * 4 + p)))), (5, .int (zI v155))]) [2, 3, 4, 5, 6, 0] rfl ?_
                exact ih102 v155  ⟨by omega, by rw [e155, ← hi102.2]; exact (fi_miss (a := o2) (n := mEn S (Q 4 g 0 * 4 + p)) (by omega) (fun h => by have h7 := h.1.1; have h8 := h.1.2; have h9 := h.2; omega)).symm⟩ (by omega)
              · refine G_aload_n (pc := 127) 0 1 dX7_gives_127 rfl rfl ?_
                refine G_getf (pc := 128) fl_X7_54 dX7_gives_128 mg_40 rfl ?_
                refine G_iload (pc := 131) 0 dX7_gives_131 rfl ?_
                refine G_zald (pc := 133) dX7_gives_133 mg_58 ⟨by omega, by omega, by omega, by omega⟩ ?_
                have hb133 := hV.b58 (S (59, 0, 0, 0) ((Q 4 g 0 * 4 + p) * 80 + o2))
                refine G_if_ne (pc := 134) 155 dX7_gives_134 (by decide) (by first | exact hS _ _ | exact hT _ _ | exact ⟨by omega, by omega⟩ | assumption | exact zWM.r (by assumption) _ _ (by decide)) (fun c134 => ?_) (fun c134 => ?_)
                · refine G_iinc_e (pc := 155) 6 (fun zw => [(5, .int (zI zw)), (6, .int (zI (S (59, 0, 0, 0) ((Q 4 g 0 * 4 + p) * 80 + o2)))), (0, .ref (ad (40, 0, 0, 0))), (1, .int (zI g)), (2, .int (zI p)), (3, .int (zI (Q 4 g 0 * 4 + p))), (4, .int (zI (mEn S (Q 4 g 0 * 4 + p))))]) dX7_gives_155 rfl (by decide) (fun _ => rfl) (fun v155 e155 => ?_)
                  refine G_goto (pc := 158) 102 dX7_gives_158 (by decide) ?_
                  refine G_perm (lv' := [(0, .ref (ad (40, 0, 0, 0))), (1, .int (zI g)), (2, .int (zI p)), (3, .int (zI (Q 4 g 0 * 4 + p))), (4, .int (zI (mEn S (Q 4 g 0 * 4 + p)))), (5, .int (zI v155))]) [2, 3, 4, 5, 6, 0] rfl ?_
                  exact ih102 v155  ⟨by omega, by rw [e155, ← hi102.2]; exact (fi_miss (a := o2) (n := mEn S (Q 4 g 0 * 4 + p)) (by omega) (fun h => by have h7 := h.1.1; have h8 := h.1.2; have h9 := h.2; omega)).symm⟩ (by omega)
                · refine G_aload_n (pc := 137) 0 1 dX7_gives_137 rfl rfl ?_
                  refine G_getf (pc := 138) fl_X7_81 dX7_gives_138 mg_40 rfl ?_
                  refine G_iload_n (pc := 141) 1 2 dX7_gives_141 rfl rfl ?_
                  refine G_bipush (pc := 142) dX7_gives_142 (by decide) ?_
                  refine G_imul (pc := 144) dX7_gives_144 ?_
                  refine G_iload (pc := 145) 0 dX7_gives_145 rfl ?_
                  refine G_iadd (pc := 147) dX7_gives_147 ?_
                  refine G_iald (pc := 148) dX7_gives_148 mg_69 ⟨by omega, by omega, by omega, by omega⟩ ?_
                  have hb148 := hV.b69 ((g * 80) + (S (59, 0, 0, 0) ((Q 4 g 0 * 4 + p) * 80 + o2)))
                  refine G_if_ne (pc := 149) 155 dX7_gives_149 (by decide) (by first | exact hS _ _ | exact hT _ _ | exact ⟨by omega, by omega⟩ | assumption | exact zWM.r (by assumption) _ _ (by decide)) (fun c149 => ?_) (fun c149 => ?_)
                  · refine G_iinc_e (pc := 155) 6 (fun zw => [(5, .int (zI zw)), (6, .int (zI (S (59, 0, 0, 0) ((Q 4 g 0 * 4 + p) * 80 + o2)))), (0, .ref (ad (40, 0, 0, 0))), (1, .int (zI g)), (2, .int (zI p)), (3, .int (zI (Q 4 g 0 * 4 + p))), (4, .int (zI (mEn S (Q 4 g 0 * 4 + p))))]) dX7_gives_155 rfl (by decide) (fun _ => rfl) (fun v155 e155 => ?_)
                    refine G_goto (pc := 158) 102 dX7_gives_158 (by decide) ?_
                    refine G_perm (lv' := [(0, .ref (ad (40, 0, 0, 0))), (1, .int (zI g)), (2, .int (zI p)), (3, .int (zI (Q 4 g 0 * 4 + p))), (4, .int (zI (mEn S (Q 4 g 0 * 4 + p)))), (5, .int (zI v155))]) [2, 3, 4, 5, 6, 0] rfl ?_
                    exact ih102 v155  ⟨by omega, by rw [e155, ← hi102.2]; exact (fi_miss (a := o2) (n := mEn S (Q 4 g 0 * 4 + p)) (by omega) (fun h => by have h7 := h.1.1; have h8 := h.1.2; have h9 := h.2; omega)).symm⟩ (by omega)
                  · refine G_iload (pc := 152) 0 dX7_gives_152 rfl ?_
                    exact G_iret_d (pc := 154) hF dX7_gives_154 ⟨Nat.le_of_ble_eq_true rfl, Nat.le_of_ble_eq_true rfl⟩ (by unfold mgv; rw [if_neg (by rw [← hi26.2, fi_end (by omega)]; omega), ← hi102.2, fi_hit (a := o2) (n := mEn S (Q 4 g 0 * 4 + p)) (by omega) ⟨⟨by omega, by omega⟩, by omega⟩, if_pos (by omega)])
        refine G_perm (lv' := [(0, .ref (ad (40, 0, 0, 0))), (1, .int (zI g)), (2, .int (zI p)), (3, .int (zI (Q 4 g 0 * 4 + p))), (4, .int (zI (mEn S (Q 4 g 0 * 4 + p)))), (5, .int (zI (S (66, 0, 0, 0) ((g * 4) + p))))]) [1, 2, 3, 4, 5, 0] rfl ?_
        exact L102 _ (S (66, 0, 0, 0) ((g * 4) + p))  ⟨by omega, rfl⟩ (Nat.lt_succ_self _)
      · refine G_iload_n (pc := 37) 1 1 dX7_gives_37 rfl rfl ?_
        refine G_bipush (pc := 38) dX7_gives_38 (by decide) ?_
        refine G_imul (pc := 40) dX7_gives_40 ?_
        refine G_aload_n (pc := 41) 0 0 dX7_gives_41 rfl rfl ?_
        refine G_iload_n (pc := 42) 3 3 dX7_gives_42 rfl rfl ?_
        refine G_iload (pc := 43) 5 dX7_gives_43 rfl ?_
        refine G_callVd (pc := 45) gk_X7_113 dX7_gives_45 mg_40 rfl (c_X7_messageAt (Q := Q) (by first | assumption | omega | exact ⟨by omega, by omega⟩ | exact hS _ _ | exact hT _ _) (by first | assumption | omega | exact ⟨by omega, by omega⟩ | exact hS _ _ | exact hT _ _) (by first | assumption | omega | exact ⟨by omega, by omega⟩ | exact hS _ _ | exact hT _ _)) rfl rfl (Nat.le_of_ble_eq_true rfl) ⟨⟨Nat.le_of_ble_eq_true rfl, Nat.le_of_ble_eq_true rfl⟩, Nat.le_of_ble_eq_true rfl, Nat.le_of_ble_eq_true rfl⟩ ?_
        have hb45 := hV.b59 ((Q 4 g 0 * 4 + p) * 80 + o)
        refine G_iadd (pc := 48) dX7_gives_48 ?_
        refine G_istore (pc := 49) [(6, .int (zI ((g * 80) + (S (59, 0, 0, 0) ((Q 4 g 0 * 4 + p) * 80 + o))))), (0, .ref (ad (40, 0, 0, 0))), (1, .int (zI g)), (2, .int (zI p)), (3, .int (zI (Q 4 g 0 * 4 + p))), (4, .int (zI (mEn S (Q 4 g 0 * 4 + p)))), (5, .int (zI o))] dX7_gives_49 (by decide) rfl ?_
        refine G_aload_n (pc := 51) 0 1 dX7_gives_51 rfl rfl ?_
        refine G_getf (pc := 52) fl_X7_81 dX7_gives_52 mg_40 rfl ?_
        refine G_iload (pc := 55) 0 dX7_gives_55 rfl ?_
        refine G_iald (pc := 57) dX7_gives_57 mg_69 ⟨by omega, by omega, by omega, by omega⟩ ?_
        have hb57 := hV.b69 ((g * 80) + (S (59, 0, 0, 0) ((Q 4 g 0 * 4 + p) * 80 + o)))
        refine G_iconst (pc := 58) dX7_gives_58 ?_
        refine G_icmp_ne (pc := 59) 84 dX7_gives_59 (by decide) (by first | exact hS _ _ | exact hT _ _ | exact ⟨by omega, by omega⟩ | assumption | exact zWM.r (by assumption) _ _ (by decide)) (by first | exact hS _ _ | exact hT _ _ | exact ⟨by omega, by omega⟩ | assumption | exact zWM.r (by assumption) _ _ (by decide)) (fun c59 => ?_) (fun c59 => ?_)
        · refine G_iinc_e (pc := 84) 6 (fun zw => [(5, .int (zI zw)), (6, .int (zI ((g * 80) + (S (59, 0, 0, 0) ((Q 4 g 0 * 4 + p) * 80 + o))))), (0, .ref (ad (40, 0, 0, 0))), (1, .int (zI g)), (2, .int (zI p)), (3, .int (zI (Q 4 g 0 * 4 + p))), (4, .int (zI (mEn S (Q 4 g 0 * 4 + p))))]) dX7_gives_84 rfl (by decide) (fun _ => rfl) (fun v84 e84 => ?_)
          refine G_goto (pc := 87) 26 dX7_gives_87 (by decide) ?_
          refine G_perm (lv' := [(0, .ref (ad (40, 0, 0, 0))), (1, .int (zI g)), (2, .int (zI p)), (3, .int (zI (Q 4 g 0 * 4 + p))), (4, .int (zI (mEn S (Q 4 g 0 * 4 + p)))), (5, .int (zI v84))]) [2, 3, 4, 5, 6, 0] rfl ?_
          exact ih26 v84  ⟨by omega, by rw [e84, ← hi26.2]; exact (fi_miss (a := o) (n := Q 2 (Q 4 g 0) p) (by omega) (fun h => by have h7 := h.1; have h8 := h.2; omega)).symm⟩ (by omega)
        · refine G_aload_n (pc := 62) 0 1 dX7_gives_62 rfl rfl ?_
          refine G_getf (pc := 63) fl_X7_87 dX7_gives_63 mg_40 rfl ?_
          refine G_iload (pc := 66) 0 dX7_gives_66 rfl ?_
          refine G_iald (pc := 68) dX7_gives_68 mg_71 ⟨by omega, by omega, by omega, by omega⟩ ?_
          have hb68 := hV.b71 ((g * 80) + (S (59, 0, 0, 0) ((Q 4 g 0 * 4 + p) * 80 + o)))
          refine G_aload_n (pc := 69) 0 1 dX7_gives_69 rfl rfl ?_
          refine G_getf (pc := 70) fl_X7_143 dX7_gives_70 mg_40 rfl ?_
          have hb70 := hV.f1
          refine G_icmp_gt (pc := 73) 84 dX7_gives_73 (by decide) (by first | exact hS _ _ | exact hT _ _ | exact ⟨by omega, by omega⟩ | assumption | exact zWM.r (by assumption) _ _ (by decide)) (by first | exact hS _ _ | exact hT _ _ | exact ⟨by omega, by omega⟩ | assumption | exact zWM.r (by assumption) _ _ (by decide)) (fun c73 => ?_) (fun c73 => ?_)
          · refine G_iinc_e (pc := 84) 6 (fun zw => [(5, .int (zI zw)), (6, .int (zI ((g * 80) + (S (59, 0, 0, 0) ((Q 4 g 0 * 4 + p) * 80 + o))))), (0, .ref (ad (40, 0, 0, 0))), (1, .int (zI g)), (2, .int (zI p)), (3, .int (zI (Q 4 g 0 * 4 + p))), (4, .int (zI (mEn S (Q 4 g 0 * 4 + p))))]) dX7_gives_84 rfl (by decide) (fun _ => rfl) (fun v84 e84 => ?_)
            refine G_goto (pc := 87) 26 dX7_gives_87 (by decide) ?_
            refine G_perm (lv' := [(0, .ref (ad (40, 0, 0, 0))), (1, .int (zI g)), (2, .int (zI p)), (3, .int (zI (Q 4 g 0 * 4 + p))), (4, .int (zI (mEn S (Q 4 g 0 * 4 + p)))), (5, .int (zI v84))]) [2, 3, 4, 5, 6, 0] rfl ?_
            exact ih26 v84  ⟨by omega, by rw [e84, ← hi26.2]; exact (fi_miss (a := o) (n := Q 2 (Q 4 g 0) p) (by omega) (fun h => by have h7 := h.1; have h8 := h.2; omega)).symm⟩ (by omega)
          · refine G_aload_n (pc := 76) 0 1 dX7_gives_76 rfl rfl ?_
            refine G_iload_n (pc := 77) 3 4 dX7_gives_77 rfl rfl ?_
            refine G_iload (pc := 78) 6 dX7_gives_78 rfl ?_
            refine G_callVd (pc := 80) gk_X7_113 dX7_gives_80 mg_40 rfl (c_X7_messageAt (Q := Q) (by first | assumption | omega | exact ⟨by omega, by omega⟩ | exact hS _ _ | exact hT _ _) (by first | assumption | omega | exact ⟨by omega, by omega⟩ | exact hS _ _ | exact hT _ _) (by first | assumption | omega | exact ⟨by omega, by omega⟩ | exact hS _ _ | exact hT _ _)) rfl rfl (Nat.le_of_ble_eq_true rfl) ⟨⟨Nat.le_of_ble_eq_true rfl, Nat.le_of_ble_eq_true rfl⟩, Nat.le_of_ble_eq_true rfl, Nat.le_of_ble_eq_true rfl⟩ ?_
            have hb80 := hV.b59 ((Q 4 g 0 * 4 + p) * 80 + o)
            exact G_iret_d (pc := 83) hF dX7_gives_83 ⟨Nat.le_of_ble_eq_true rfl, Nat.le_of_ble_eq_true rfl⟩ (by unfold mgv; rw [← hi26.2, fi_hit (a := o) (n := Q 2 (Q 4 g 0) p) (by omega) ⟨by omega, by omega⟩, if_pos (by omega)])
  refine G_perm (lv' := [(0, .ref (ad (40, 0, 0, 0))), (1, .int (zI g)), (2, .int (zI p)), (3, .int (zI (Q 4 g 0 * 4 + p))), (4, .int (zI (mEn S (Q 4 g 0 * 4 + p)))), (5, .int (zI (S (65, 0, 0, 0) ((g * 4) + p))))]) [3, 4, 5, 2, 1, 0] rfl ?_
  exact L26 _ (S (65, 0, 0, 0) ((g * 4) + p))  ⟨by omega, rfl⟩ (Nat.lt_succ_self _)
set_option maxHeartbeats 4000000 in
set_option maxRecDepth 100000 in
theorem c_X7_givesTo {l : Launch} {Δ : zDl} {ad : zK → Nat} {P : zP} {S : zS} {X : zMem} {Q : zP} {g x : Int} (hV : zWM Q S) (hg : 0 ≤ g ∧ g < Q 3 0 0) (h61 : Q 61 0 0 = P 61 0 0) (hx : zR x) : zMn l Δ yX7_givesTo cX7_givesTo 4 (some .int) 4 0 0 [.ref (ad (40, 0, 0, 0)), .int (zI g), .int (zI x)] ad (mm Δ ad P S X) (zD (some (.int (zI (mgt Q S g x)))) ad (mm Δ ad P S X)) := by
  refine zMn_of (by decide) (Nat.le_of_ble_eq_true rfl) (fun Γ hl hΔ hF => ?_)
  subst hl hΔ
  show G Γ _ _ _ RX7 _ _ _ _ _ [(0, .ref (ad (40, 0, 0, 0))), (1, .int (zI g)), (2, .int (zI x))] []
  have hq := hV.q
  have hqg := hV.qg hg
  have hqt := hV.qt hqg
  have hgt := hV.gt hg
  have hgn := hV.gn hg
  refine G_iconst (pc := 0) dX7_givesTo_0 ?_
  refine G_istore_ne (pc := 1) 3 (fun zw => [(3, .int (zI zw)), (0, .ref (ad (40, 0, 0, 0))), (1, .int (zI g)), (2, .int (zI x))]) dX7_givesTo_1 rfl (by decide) (fun _ => rfl) (fun v1 e1 => ?_)
  have L2 : ∀ (n : Nat) (p : Int), ((0 ≤ p ∧ p ≤ Q 1 (Q 4 g 0) 0) ∧ fi (mgq Q S g x) p (Q 1 (Q 4 g 0) 0) = fi (mgq Q S g x) 0 (Q 1 (Q 4 g 0) 0)) → (Q 1 (Q 4 g 0) 0 - p).toNat < n → G Γ (zRm 4 0 0) cX7_givesTo 4 RX7 ad (mm (z_d Γ) ad P S X) 0 0 2 [(0, .ref (ad (40, 0, 0, 0))), (1, .int (zI g)), (2, .int (zI x)), (3, .int (zI p))] [] := by
    intro n
    induction n with
    | zero => intro p _ hn; omega
    | succ n ih2 =>
      intro p hi2 hn2
      refine G_iload_n (pc := 2) 3 3 dX7_givesTo_2 rfl rfl ?_
      refine G_aload_n (pc := 3) 0 0 dX7_givesTo_3 rfl rfl ?_
      refine G_getf (pc := 4) fl_X7_16 dX7_givesTo_4 mg_40 rfl ?_
      refine G_aload_n (pc := 7) 0 0 dX7_givesTo_7 rfl rfl ?_
      refine G_getf (pc := 8) fl_X7_66 dX7_givesTo_8 mg_40 rfl ?_
      refine G_iload_n (pc := 11) 1 1 dX7_givesTo_11 rfl rfl ?_
      refine G_iald (pc := 12) dX7_givesTo_12 mg_64 ⟨by omega, by omega, by omega, by omega⟩ ?_
      have hb12 := hV.b64 (g)
      refine G_iald (pc := 13) dX7_givesTo_13 mg_45 ⟨by omega, by omega, by omega, by omega⟩ ?_
      have hb13 := hV.b45 (S (64, 0, 0, 0) g)
      refine G_icmp_ge (pc := 14) 54 dX7_givesTo_14 (by decide) (by first | exact hS _ _ | exact hT _ _ | exact ⟨by omega, by omega⟩ | assumption | exact zWM.r (by assumption) _ _ (by decide)) (by first | exact hS _ _ | exact hT _ _ | exact ⟨by omega, by omega⟩ | assumption | exact zWM.r (by assumption) _ _ (by decide)) (fun c14 => ?_) (fun c14 => ?_)
      · refine G_iconst (pc := 54) dX7_givesTo_54 ?_
        exact G_iret_d (pc := 55) hF dX7_givesTo_55 ⟨Nat.le_of_ble_eq_true rfl, Nat.le_of_ble_eq_true rfl⟩ (by unfold mgt; rw [← hi2.2, fi_end (by omega), if_neg (by omega)])
      · refine G_aload_n (pc := 17) 0 0 dX7_givesTo_17 rfl rfl ?_
        refine G_getf (pc := 18) fl_X7_75 dX7_givesTo_18 mg_40 rfl ?_
        refine G_iload_n (pc := 21) 1 1 dX7_givesTo_21 rfl rfl ?_
        refine G_iconst (pc := 22) dX7_givesTo_22 ?_
        refine G_imul (pc := 23) dX7_givesTo_23 ?_
        refine G_iload_n (pc := 24) 3 3 dX7_givesTo_24 rfl rfl ?_
        refine G_iadd (pc := 25) dX7_givesTo_25 ?_
        refine G_iald (pc := 26) dX7_givesTo_26 mg_67 ⟨by omega, by omega, by omega, by omega⟩ ?_
        have hb26 := hV.b67 ((g * 4) + p)
        refine G_iload_n (pc := 27) 2 2 dX7_givesTo_27 rfl rfl ?_
        refine G_icmp_ne (pc := 28) 48 dX7_givesTo_28 (by decide) (by first | exact hS _ _ | exact hT _ _ | exact ⟨by omega, by omega⟩ | assumption | exact zWM.r (by assumption) _ _ (by decide)) (by first | exact hS _ _ | exact hT _ _ | exact ⟨by omega, by omega⟩ | assumption | exact zWM.r (by assumption) _ _ (by decide)) (fun c28 => ?_) (fun c28 => ?_)
        · refine G_iinc_e (pc := 48) 3 (fun zw => [(3, .int (zI zw)), (0, .ref (ad (40, 0, 0, 0))), (1, .int (zI g)), (2, .int (zI x))]) dX7_givesTo_48 rfl (by decide) (fun _ => rfl) (fun v48 e48 => ?_)
          refine G_goto (pc := 51) 2 dX7_givesTo_51 (by decide) ?_
          refine G_perm (lv' := [(0, .ref (ad (40, 0, 0, 0))), (1, .int (zI g)), (2, .int (zI x)), (3, .int (zI v48))]) [1, 2, 3, 0] rfl ?_
          exact ih2 v48  ⟨by omega, by rw [e48, ← hi2.2]; exact (fi_miss (a := p) (n := Q 1 (Q 4 g 0) 0) (by omega) (fun h => by first | exact c28 h.1 | exact h.2 c38)).symm⟩ (by omega)
        · refine G_aload_n (pc := 31) 0 0 dX7_givesTo_31 rfl rfl ?_
          refine G_iload_n (pc := 32) 1 1 dX7_givesTo_32 rfl rfl ?_
          refine G_iload_n (pc := 33) 3 3 dX7_givesTo_33 rfl rfl ?_
          refine G_callVd (pc := 34) gk_X7_204 dX7_givesTo_34 mg_40 rfl (c_X7_gives (Q := Q) (by first | assumption | omega | exact ⟨by omega, by omega⟩ | exact hS _ _ | exact hT _ _) (by first | assumption | omega | exact ⟨by omega, by omega⟩ | exact hS _ _ | exact hT _ _) (by first | assumption | omega | exact ⟨by omega, by omega⟩ | exact hS _ _ | exact hT _ _) (by first | assumption | omega | exact ⟨by omega, by omega⟩ | exact hS _ _ | exact hT _ _)) rfl rfl (Nat.le_of_ble_eq_true rfl) ⟨⟨Nat.le_of_ble_eq_true rfl, Nat.le_of_ble_eq_true rfl⟩, Nat.le_of_ble_eq_true rfl, Nat.le_of_ble_eq_true rfl⟩ ?_
          have hb34 := mgv_le (Q := Q) (g := g) (p := p) hV
          refine G_iconst (pc := 37) dX7_givesTo_37 ?_
          refine G_icmp_eq (pc := 38) 48 dX7_givesTo_38 (by decide) (by first | exact hS _ _ | exact hT _ _ | exact ⟨by omega, by omega⟩ | assumption | exact zWM.r (by assumption) _ _ (by decide)) (by first | exact hS _ _ | exact hT _ _ | exact ⟨by omega, by omega⟩ | assumption | exact zWM.r (by assumption) _ _ (by decide)) (fun c38 => ?_) (fun c38 => ?_)
          · refine G_iinc_e (pc := 48) 3 (fun zw => [(3, .int (zI zw)), (0, .ref (ad (40, 0, 0, 0))), (1, .int (zI g)), (2, .int (zI x))]) dX7_givesTo_48 rfl (by decide) (fun _ => rfl) (fun v48 e48 => ?_)
            refine G_goto (pc := 51) 2 dX7_givesTo_51 (by decide) ?_
            refine G_perm (lv' := [(0, .ref (ad (40, 0, 0, 0))), (1, .int (zI g)), (2, .int (zI x)), (3, .int (zI v48))]) [1, 2, 3, 0] rfl ?_
            exact ih2 v48  ⟨by omega, by rw [e48, ← hi2.2]; exact (fi_miss (a := p) (n := Q 1 (Q 4 g 0) 0) (by omega) (fun h => by first | exact c28 h.1 | exact h.2 c38)).symm⟩ (by omega)
          · refine G_aload_n (pc := 41) 0 0 dX7_givesTo_41 rfl rfl ?_
            refine G_iload_n (pc := 42) 1 1 dX7_givesTo_42 rfl rfl ?_
            refine G_iload_n (pc := 43) 3 3 dX7_givesTo_43 rfl rfl ?_
            refine G_callVd (pc := 44) gk_X7_204 dX7_givesTo_44 mg_40 rfl (c_X7_gives (Q := Q) (by first | assumption | omega | exact ⟨by omega, by omega⟩ | exact hS _ _ | exact hT _ _) (by first | assumption | omega | exact ⟨by omega, by omega⟩ | exact hS _ _ | exact hT _ _) (by first | assumption | omega | exact ⟨by omega, by omega⟩ | exact hS _ _ | exact hT _ _) (by first | assumption | omega | exact ⟨by omega, by omega⟩ | exact hS _ _ | exact hT _ _)) rfl rfl (Nat.le_of_ble_eq_true rfl) ⟨⟨Nat.le_of_ble_eq_true rfl, Nat.le_of_ble_eq_true rfl⟩, Nat.le_of_ble_eq_true rfl, Nat.le_of_ble_eq_true rfl⟩ ?_
            have hb44 := mgv_le (Q := Q) (g := g) (p := p) hV
            exact G_iret_d (pc := 47) hF dX7_givesTo_47 ⟨Nat.le_of_ble_eq_true rfl, Nat.le_of_ble_eq_true rfl⟩ (by unfold mgt; rw [← hi2.2, fi_hit (a := p) (n := Q 1 (Q 4 g 0) 0) (by omega) ⟨c28, c38⟩, if_pos (by omega)])
  refine G_perm (lv' := [(0, .ref (ad (40, 0, 0, 0))), (1, .int (zI g)), (2, .int (zI x)), (3, .int (zI v1))]) [1, 2, 3, 0] rfl ?_
  exact L2 _ v1  ⟨by omega, by rw [e1]⟩ (Nat.lt_succ_self _)
set_option maxHeartbeats 4000000 in
set_option maxRecDepth 100000 in
theorem c_X7_told {l : Launch} {Δ : zDl} {ad : zK → Nat} {P : zP} {S : zS} {X : zMem} {x y : Int} (hx : 0 ≤ x ∧ x < 16) (hy : 0 ≤ y ∧ y < 80) : zMn l Δ yX7_told cX7_told 2 (some .int) 1 0 0 [.int (zI x), .int (zI y)] ad (mm Δ ad P S X) (zD (some (.int (zI (100 * (x % 4) + y)))) ad (mm Δ ad P S X)) := by
  refine zMn_of (by decide) (Nat.le_of_ble_eq_true rfl) (fun Γ hl hΔ hF => ?_)
  subst hl hΔ
  show G Γ _ _ _ RX7 _ _ _ _ _ [(0, .int (zI x)), (1, .int (zI y))] []
  refine G_bipush (pc := 0) dX7_told_0 (by decide) ?_
  refine G_iload_n (pc := 2) 0 0 dX7_told_2 rfl rfl ?_
  refine G_iconst (pc := 3) dX7_told_3 ?_
  refine G_irem (pc := 4) dX7_told_4 ⟨by omega, by omega, by omega⟩ ⟨by omega, by omega, by omega⟩ ?_
  refine G_imul (pc := 5) dX7_told_5 ?_
  refine G_iload_n (pc := 6) 1 1 dX7_told_6 rfl rfl ?_
  refine G_iadd (pc := 7) dX7_told_7 ?_
  exact G_iret_d (pc := 8) hF dX7_told_8 ⟨Nat.le_of_ble_eq_true rfl, Nat.le_of_ble_eq_true rfl⟩ (by first | rfl | omega | simp_all)
set_option maxHeartbeats 4000000 in
set_option maxRecDepth 100000 in
theorem c_X7_wouldNow {l : Launch} {Δ : zDl} {ad : zK → Nat} {P : zP} {S : zS} {X : zMem} {Q : zP} {g r : Int} (hV : zWM Q S) (hg : 0 ≤ g ∧ g < Q 3 0 0) (h61 : Q 61 0 0 = P 61 0 0) (hr : 0 ≤ r ∧ r < 6) : zMn l Δ yX7_wouldNow cX7_wouldNow 4 (some .int) 5 0 0 [.ref (ad (40, 0, 0, 0)), .int (zI g), .int (zI r)] ad (mm Δ ad P S X) (zD (some (.int (zI (mwn Q S g r)))) ad (mm Δ ad P S X)) := by
  refine zMn_of (by decide) (Nat.le_of_ble_eq_true rfl) (fun Γ hl hΔ hF => ?_)
  subst hl hΔ
  show G Γ _ _ _ RX7 _ _ _ _ _ [(0, .ref (ad (40, 0, 0, 0))), (1, .int (zI g)), (2, .int (zI r))] []
  have hq := hV.q
  have hqg := hV.qg hg
  have hqt := hV.qt hqg
  have hgt := hV.gt hg
  have hgn := hV.gn hg
  refine G_aload_n (pc := 0) 0 0 dX7_wouldNow_0 rfl rfl ?_
  refine G_getf (pc := 1) fl_X7_78 dX7_wouldNow_1 mg_40 rfl ?_
  refine G_iload_n (pc := 4) 1 1 dX7_wouldNow_4 rfl rfl ?_
  refine G_bipush (pc := 5) dX7_wouldNow_5 (by decide) ?_
  refine G_imul (pc := 7) dX7_wouldNow_7 ?_
  refine G_iload_n (pc := 8) 2 2 dX7_wouldNow_8 rfl rfl ?_
  refine G_iadd (pc := 9) dX7_wouldNow_9 ?_
  refine G_zald (pc := 10) dX7_wouldNow_10 mg_68 ⟨by omega, by omega, by omega, by omega⟩ ?_
  have hb10 := hV.b68 ((g * 6) + r)
  refine G_if_eq (pc := 11) 23 dX7_wouldNow_11 (by decide) (by first | exact hS _ _ | exact hT _ _ | exact ⟨by omega, by omega⟩ | assumption | exact zWM.r (by assumption) _ _ (by decide)) (fun c11 => ?_) (fun c11 => ?_)
  · refine G_iconst (pc := 23) dX7_wouldNow_23 ?_
    refine G_istore_n (pc := 24) 3 [(3, .int (zI (-1))), (0, .ref (ad (40, 0, 0, 0))), (1, .int (zI g)), (2, .int (zI r))] dX7_wouldNow_24 rfl (by decide) rfl ?_
    refine G_iload_n (pc := 25) 3 0 dX7_wouldNow_25 rfl rfl ?_
    refine G_iconst (pc := 26) dX7_wouldNow_26 ?_
    refine G_icmp_ne (pc := 27) 34 dX7_wouldNow_27 (by decide) (by first | exact hS _ _ | exact hT _ _ | exact ⟨by omega, by omega⟩ | assumption | exact zWM.r (by assumption) _ _ (by decide)) (by first | exact hS _ _ | exact hT _ _ | exact ⟨by omega, by omega⟩ | assumption | exact zWM.r (by assumption) _ _ (by decide)) (fun c27 => ?_) (fun c27 => ?_)
    · have hb34 := hV.b52 (mgt Q S g r)
      have hb35 := hV.b53 (mgt Q S g r)
      refine G_aload_n (pc := 34) 0 1 dX7_wouldNow_34 rfl rfl ?_
      refine G_getf (pc := 35) fl_X7_36 dX7_wouldNow_35 mg_40 rfl ?_
      refine G_iload_n (pc := 38) 3 0 dX7_wouldNow_38 rfl rfl ?_
      refine G_iald (pc := 39) dX7_wouldNow_39 mg_52 ⟨by omega, by omega, by omega, by omega⟩ ?_
      have hb39 := hV.b52 (-1)
      refine G_aload_n (pc := 40) 0 1 dX7_wouldNow_40 rfl rfl ?_
      refine G_getf (pc := 41) fl_X7_39 dX7_wouldNow_41 mg_40 rfl ?_
      refine G_iload_n (pc := 44) 3 0 dX7_wouldNow_44 rfl rfl ?_
      refine G_iald (pc := 45) dX7_wouldNow_45 mg_53 ⟨by omega, by omega, by omega, by omega⟩ ?_
      have hb45 := hV.b53 (-1)
      refine G_callSd (pc := 46) gk_X7_217 dX7_wouldNow_46 (c_X7_told (by first | assumption | omega | exact ⟨by omega, by omega⟩ | exact hS _ _ | exact hT _ _) (by first | assumption | omega | exact ⟨by omega, by omega⟩ | exact hS _ _ | exact hT _ _)) rfl rfl (Nat.le_of_ble_eq_true rfl) ⟨⟨Nat.le_of_ble_eq_true rfl, Nat.le_of_ble_eq_true rfl⟩, Nat.le_of_ble_eq_true rfl, Nat.le_of_ble_eq_true rfl⟩ ?_
      exact G_iret_d (pc := 49) hF dX7_wouldNow_49 ⟨Nat.le_of_ble_eq_true rfl, Nat.le_of_ble_eq_true rfl⟩ (by first | (exfalso; omega) | skip; unfold mwn mtd; first | rw [if_pos c11] | rw [if_neg c11, if_pos c27] | rw [if_neg c11, if_neg c27])
    · refine G_iconst (pc := 30) dX7_wouldNow_30 ?_
      refine G_goto (pc := 31) 49 dX7_wouldNow_31 (by decide) ?_
      exact G_iret_d (pc := 49) hF dX7_wouldNow_49 ⟨Nat.le_of_ble_eq_true rfl, Nat.le_of_ble_eq_true rfl⟩ (by first | (exfalso; omega) | skip; unfold mwn mtd; first | rw [if_pos c11] | rw [if_neg c11, if_pos c27] | rw [if_neg c11, if_neg c27])
  · refine G_aload_n (pc := 14) 0 0 dX7_wouldNow_14 rfl rfl ?_
    refine G_iload_n (pc := 15) 1 1 dX7_wouldNow_15 rfl rfl ?_
    refine G_iload_n (pc := 16) 2 2 dX7_wouldNow_16 rfl rfl ?_
    refine G_callVd (pc := 17) gk_X7_210 dX7_wouldNow_17 mg_40 rfl (c_X7_givesTo (Q := Q) (by first | assumption | omega | exact ⟨by omega, by omega⟩ | exact hS _ _ | exact hT _ _) (by first | assumption | omega | exact ⟨by omega, by omega⟩ | exact hS _ _ | exact hT _ _) (by first | assumption | omega | exact ⟨by omega, by omega⟩ | exact hS _ _ | exact hT _ _) (by first | assumption | omega | exact ⟨by omega, by omega⟩ | exact hS _ _ | exact hT _ _)) rfl rfl (Nat.le_of_ble_eq_true rfl) ⟨⟨Nat.le_of_ble_eq_true rfl, Nat.le_of_ble_eq_true rfl⟩, Nat.le_of_ble_eq_true rfl, Nat.le_of_ble_eq_true rfl⟩ ?_
    have hb17 := mgt_le (Q := Q) (g := g) (r := r) hV
    refine G_goto (pc := 20) 24 dX7_wouldNow_20 (by decide) ?_
    refine G_istore_n (pc := 24) 3 [(3, .int (zI (mgt Q S g r))), (0, .ref (ad (40, 0, 0, 0))), (1, .int (zI g)), (2, .int (zI r))] dX7_wouldNow_24 rfl (by decide) rfl ?_
    refine G_iload_n (pc := 25) 3 0 dX7_wouldNow_25 rfl rfl ?_
    refine G_iconst (pc := 26) dX7_wouldNow_26 ?_
    refine G_icmp_ne (pc := 27) 34 dX7_wouldNow_27 (by decide) (by first | exact hS _ _ | exact hT _ _ | exact ⟨by omega, by omega⟩ | assumption | exact zWM.r (by assumption) _ _ (by decide)) (by first | exact hS _ _ | exact hT _ _ | exact ⟨by omega, by omega⟩ | assumption | exact zWM.r (by assumption) _ _ (by decide)) (fun c27 => ?_) (fun c27 => ?_)
    · have hb34 := hV.b52 (mgt Q S g r)
      have hb35 := hV.b53 (mgt Q S g r)
      refine G_aload_n (pc := 34) 0 1 dX7_wouldNow_34 rfl rfl ?_
      refine G_getf (pc := 35) fl_X7_36 dX7_wouldNow_35 mg_40 rfl ?_
      refine G_iload_n (pc := 38) 3 0 dX7_wouldNow_38 rfl rfl ?_
      refine G_iald (pc := 39) dX7_wouldNow_39 mg_52 ⟨by omega, by omega, by omega, by omega⟩ ?_
      have hb39 := hV.b52 (mgt Q S g r)
      refine G_aload_n (pc := 40) 0 1 dX7_wouldNow_40 rfl rfl ?_
      refine G_getf (pc := 41) fl_X7_39 dX7_wouldNow_41 mg_40 rfl ?_
      refine G_iload_n (pc := 44) 3 0 dX7_wouldNow_44 rfl rfl ?_
      refine G_iald (pc := 45) dX7_wouldNow_45 mg_53 ⟨by omega, by omega, by omega, by omega⟩ ?_
      have hb45 := hV.b53 (mgt Q S g r)
      refine G_callSd (pc := 46) gk_X7_217 dX7_wouldNow_46 (c_X7_told (by first | assumption | omega | exact ⟨by omega, by omega⟩ | exact hS _ _ | exact hT _ _) (by first | assumption | omega | exact ⟨by omega, by omega⟩ | exact hS _ _ | exact hT _ _)) rfl rfl (Nat.le_of_ble_eq_true rfl) ⟨⟨Nat.le_of_ble_eq_true rfl, Nat.le_of_ble_eq_true rfl⟩, Nat.le_of_ble_eq_true rfl, Nat.le_of_ble_eq_true rfl⟩ ?_
      exact G_iret_d (pc := 49) hF dX7_wouldNow_49 ⟨Nat.le_of_ble_eq_true rfl, Nat.le_of_ble_eq_true rfl⟩ (by first | (exfalso; omega) | skip; unfold mwn mtd; first | rw [if_pos c11] | rw [if_neg c11, if_pos c27] | rw [if_neg c11, if_neg c27])
    · refine G_iconst (pc := 30) dX7_wouldNow_30 ?_
      refine G_goto (pc := 31) 49 dX7_wouldNow_31 (by decide) ?_
      exact G_iret_d (pc := 49) hF dX7_wouldNow_49 ⟨Nat.le_of_ble_eq_true rfl, Nat.le_of_ble_eq_true rfl⟩ (by first | (exfalso; omega) | skip; unfold mwn mtd; first | rw [if_pos c11] | rw [if_neg c11, if_pos c27] | rw [if_neg c11, if_neg c27])
set_option maxHeartbeats 4000000 in
set_option maxRecDepth 100000 in
theorem c_X7_nextNow {l : Launch} {Δ : zDl} {ad : zK → Nat} {P : zP} {S : zS} {X : zMem} {Q : zP} {g : Int} (hV : zWM Q S) (hg : 0 ≤ g ∧ g < Q 3 0 0) (h61 : Q 61 0 0 = P 61 0 0) : zMn l Δ yX7_nextNow cX7_nextNow 6 (some .int) 2 0 0 [.ref (ad (40, 0, 0, 0)), .int (zI g)] ad (mm Δ ad P S X) (zD (some (.int (zI (mnn Q S g)))) ad (mm Δ ad P S X)) := by
  refine zMn_of (by decide) (Nat.le_of_ble_eq_true rfl) (fun Γ hl hΔ hF => ?_)
  subst hl hΔ
  show G Γ _ _ _ RX7 _ _ _ _ _ [(0, .ref (ad (40, 0, 0, 0))), (1, .int (zI g))] []
  have hq := hV.q
  have hqg := hV.qg hg
  have hqt := hV.qt hqg
  have hgt := hV.gt hg
  have hgn := hV.gn hg
  have h11 := hV.f11
  have h1 := hV.f1
  have h3 := hV.f3
  refine G_iconst (pc := 0) dX7_nextNow_0 ?_
  refine G_istore_ne (pc := 1) 2 (fun zw => [(2, .int (zI zw)), (0, .ref (ad (40, 0, 0, 0))), (1, .int (zI g))]) dX7_nextNow_1 rfl (by decide) (fun _ => rfl) (fun v1 e1 => ?_)
  refine G_iconst (pc := 2) dX7_nextNow_2 ?_
  refine G_istore_ne (pc := 3) 3 (fun zw => [(3, .int (zI zw)), (2, .int (zI v1)), (0, .ref (ad (40, 0, 0, 0))), (1, .int (zI g))]) dX7_nextNow_3 rfl (by decide) (fun _ => rfl) (fun v3 e3 => ?_)
  have L4 : ∀ (n : Nat) (b : Int) (o : Int), (((0 ≤ o ∧ o ≤ S (40, 0, 0, 0) 11) ∧ (-1 ≤ b ∧ b ≤ 30000)) ∧ lp (mnt Q S g) o (S (40, 0, 0, 0) 11) b = mnn Q S g) → (S (40, 0, 0, 0) 11 - o).toNat < n → G Γ (zRm 2 0 0) cX7_nextNow 6 RX7 ad (mm (z_d Γ) ad P S X) 0 0 4 [(0, .ref (ad (40, 0, 0, 0))), (1, .int (zI g)), (2, .int (zI b)), (3, .int (zI o))] [] := by
    intro n
    induction n with
    | zero => intro b o _ hn; omega
    | succ n ih4 =>
      intro b o hi4 hn4
      refine G_iload_n (pc := 4) 3 3 dX7_nextNow_4 rfl rfl ?_
      refine G_aload_n (pc := 5) 0 0 dX7_nextNow_5 rfl rfl ?_
      refine G_getf (pc := 6) fl_X7_140 dX7_nextNow_6 mg_40 rfl ?_
      have hb6 := hV.f11
      refine G_icmp_ge (pc := 9) 162 dX7_nextNow_9 (by decide) (by first | exact hS _ _ | exact hT _ _ | exact ⟨by omega, by omega⟩ | assumption | exact zWM.r (by assumption) _ _ (by decide)) (by first | exact hS _ _ | exact hT _ _ | exact ⟨by omega, by omega⟩ | assumption | exact zWM.r (by assumption) _ _ (by decide)) (fun c9 => ?_) (fun c9 => ?_)
      · refine G_iload_n (pc := 162) 2 2 dX7_nextNow_162 rfl rfl ?_
        exact G_iret_d (pc := 163) hF dX7_nextNow_163 ⟨Nat.le_of_ble_eq_true rfl, Nat.le_of_ble_eq_true rfl⟩ (by rw [← hi4.2, lp_end (by omega)])
      · refine G_iload_n (pc := 12) 1 1 dX7_nextNow_12 rfl rfl ?_
        refine G_bipush (pc := 13) dX7_nextNow_13 (by decide) ?_
        refine G_imul (pc := 15) dX7_nextNow_15 ?_
        refine G_iload_n (pc := 16) 3 3 dX7_nextNow_16 rfl rfl ?_
        refine G_iadd (pc := 17) dX7_nextNow_17 ?_
        refine G_istore (pc := 18) [(4, .int (zI ((g * 80) + o))), (0, .ref (ad (40, 0, 0, 0))), (1, .int (zI g)), (2, .int (zI b)), (3, .int (zI o))] dX7_nextNow_18 (by decide) rfl ?_
        refine G_aload_n (pc := 20) 0 1 dX7_nextNow_20 rfl rfl ?_
        refine G_getf (pc := 21) fl_X7_36 dX7_nextNow_21 mg_40 rfl ?_
        refine G_iload_n (pc := 24) 3 4 dX7_nextNow_24 rfl rfl ?_
        refine G_iald (pc := 25) dX7_nextNow_25 mg_52 ⟨by omega, by omega, by omega, by omega⟩ ?_
        have hb25 := hV.b52 (o)
        refine G_iconst (pc := 26) dX7_nextNow_26 ?_
        refine G_idiv (pc := 27) dX7_nextNow_27 ⟨by omega, by omega, by omega⟩ ⟨by omega, by omega, by omega⟩ ?_
        refine G_aload_n (pc := 28) 0 1 dX7_nextNow_28 rfl rfl ?_
        refine G_getf (pc := 29) fl_X7_66 dX7_nextNow_29 mg_40 rfl ?_
        refine G_iload_n (pc := 32) 1 2 dX7_nextNow_32 rfl rfl ?_
        refine G_iald (pc := 33) dX7_nextNow_33 mg_64 ⟨by omega, by omega, by omega, by omega⟩ ?_
        have hb33 := hV.b64 (g)
        refine G_icmp_ne (pc := 34) 156 dX7_nextNow_34 (by decide) (by first | exact hS _ _ | exact hT _ _ | exact ⟨by omega, by omega⟩ | assumption | exact zWM.r (by assumption) _ _ (by decide)) (by first | exact hS _ _ | exact hT _ _ | exact ⟨by omega, by omega⟩ | assumption | exact zWM.r (by assumption) _ _ (by decide)) (fun c34 => ?_) (fun c34 => ?_)
        · have hz9 : mnt Q S g o b = b := if_neg (fun h => by have h7 := h.1.1; omega)
          first | (have hz : mnt Q S g o b = v155 := by rw [e155]; unfold mnt; rw [if_pos hz7]; unfold mnv; first | (rw [if_pos (by omega), if_pos (by omega)]; omega) | (rw [if_pos (by omega), if_neg (by omega)]; omega) | (rw [if_neg (by omega), if_pos (by omega)]; omega) | (rw [if_neg (by omega), if_neg (by omega)]; omega)) | skip
          refine G_iinc_e (pc := 156) 4 (fun zw => [(3, .int (zI zw)), (4, .int (zI ((g * 80) + o))), (0, .ref (ad (40, 0, 0, 0))), (1, .int (zI g)), (2, .int (zI b))]) dX7_nextNow_156 rfl (by decide) (fun _ => rfl) (fun v156 e156 => ?_)
          refine G_goto (pc := 159) 4 dX7_nextNow_159 (by decide) ?_
          refine G_perm (lv' := [(0, .ref (ad (40, 0, 0, 0))), (1, .int (zI g)), (2, .int (zI b)), (3, .int (zI v156))]) [2, 3, 4, 0] rfl ?_
          exact ih4 b v156  ⟨by omega, by rw [← hi4.2, lp_step (a := o) (n := S (40, 0, 0, 0) 11) (by omega), e156]; first | rw [hz] | rw [hz9]⟩ (by omega)
        · have hb52 := hV.b52 o
          refine G_aload_n (pc := 37) 0 1 dX7_nextNow_37 rfl rfl ?_
          refine G_getf (pc := 38) fl_X7_39 dX7_nextNow_38 mg_40 rfl ?_
          refine G_iload_n (pc := 41) 3 4 dX7_nextNow_41 rfl rfl ?_
          refine G_iald (pc := 42) dX7_nextNow_42 mg_53 ⟨by omega, by omega, by omega, by omega⟩ ?_
          have hb42 := hV.b53 (o)
          refine G_aload_n (pc := 43) 0 1 dX7_nextNow_43 rfl rfl ?_
          refine G_getf (pc := 44) fl_X7_69 dX7_nextNow_44 mg_40 rfl ?_
          refine G_iload_n (pc := 47) 1 2 dX7_nextNow_47 rfl rfl ?_
          refine G_iconst (pc := 48) dX7_nextNow_48 ?_
          refine G_imul (pc := 49) dX7_nextNow_49 ?_
          refine G_aload_n (pc := 50) 0 1 dX7_nextNow_50 rfl rfl ?_
          refine G_getf (pc := 51) fl_X7_36 dX7_nextNow_51 mg_40 rfl ?_
          refine G_iload_n (pc := 54) 3 4 dX7_nextNow_54 rfl rfl ?_
          refine G_iald (pc := 55) dX7_nextNow_55 mg_52 ⟨by omega, by omega, by omega, by omega⟩ ?_
          have hb55 := hV.b52 (o)
          refine G_iconst (pc := 56) dX7_nextNow_56 ?_
          refine G_irem (pc := 57) dX7_nextNow_57 ⟨by omega, by omega, by omega⟩ ⟨by omega, by omega, by omega⟩ ?_
          refine G_iadd (pc := 58) dX7_nextNow_58 ?_
          refine G_iald (pc := 59) dX7_nextNow_59 mg_65 ⟨by omega, by omega, by omega, by omega⟩ ?_
          have hb59 := hV.b65 ((g * 4) + ((S (52, 0, 0, 0) o) % 4))
          refine G_icmp_lt (pc := 60) 156 dX7_nextNow_60 (by decide) (by first | exact hS _ _ | exact hT _ _ | exact ⟨by omega, by omega⟩ | assumption | exact zWM.r (by assumption) _ _ (by decide)) (by first | exact hS _ _ | exact hT _ _ | exact ⟨by omega, by omega⟩ | assumption | exact zWM.r (by assumption) _ _ (by decide)) (fun c60 => ?_) (fun c60 => ?_)
          · have hz9 : mnt Q S g o b = b := if_neg (fun h => by have h7 := h.1.2; omega)
            first | (have hz : mnt Q S g o b = v155 := by rw [e155]; unfold mnt; rw [if_pos hz7]; unfold mnv; first | (rw [if_pos (by omega), if_pos (by omega)]; omega) | (rw [if_pos (by omega), if_neg (by omega)]; omega) | (rw [if_neg (by omega), if_pos (by omega)]; omega) | (rw [if_neg (by omega), if_neg (by omega)]; omega)) | skip
            refine G_iinc_e (pc := 156) 4 (fun zw => [(3, .int (zI zw)), (4, .int (zI ((g * 80) + o))), (0, .ref (ad (40, 0, 0, 0))), (1, .int (zI g)), (2, .int (zI b))]) dX7_nextNow_156 rfl (by decide) (fun _ => rfl) (fun v156 e156 => ?_)
            refine G_goto (pc := 159) 4 dX7_nextNow_159 (by decide) ?_
            refine G_perm (lv' := [(0, .ref (ad (40, 0, 0, 0))), (1, .int (zI g)), (2, .int (zI b)), (3, .int (zI v156))]) [2, 3, 4, 0] rfl ?_
            exact ih4 b v156  ⟨by omega, by rw [← hi4.2, lp_step (a := o) (n := S (40, 0, 0, 0) 11) (by omega), e156]; first | rw [hz] | rw [hz9]⟩ (by omega)
          · refine G_aload_n (pc := 63) 0 1 dX7_nextNow_63 rfl rfl ?_
            refine G_getf (pc := 64) fl_X7_81 dX7_nextNow_64 mg_40 rfl ?_
            refine G_iload (pc := 67) 0 dX7_nextNow_67 rfl ?_
            refine G_iald (pc := 69) dX7_nextNow_69 mg_69 ⟨by omega, by omega, by omega, by omega⟩ ?_
            have hb69 := hV.b69 ((g * 80) + o)
            refine G_iconst (pc := 70) dX7_nextNow_70 ?_
            refine G_icmp_eq (pc := 71) 88 dX7_nextNow_71 (by decide) (by first | exact hS _ _ | exact hT _ _ | exact ⟨by omega, by omega⟩ | assumption | exact zWM.r (by assumption) _ _ (by decide)) (by first | exact hS _ _ | exact hT _ _ | exact ⟨by omega, by omega⟩ | assumption | exact zWM.r (by assumption) _ _ (by decide)) (fun c71 => ?_) (fun c71 => ?_)
            · have hz7 : mnq Q S g o := ⟨⟨by omega, by omega⟩, by omega⟩
              refine G_aload_n (pc := 88) 0 1 dX7_nextNow_88 rfl rfl ?_
              refine G_getf (pc := 89) fl_X7_81 dX7_nextNow_89 mg_40 rfl ?_
              refine G_iload (pc := 92) 0 dX7_nextNow_92 rfl ?_
              refine G_iald (pc := 94) dX7_nextNow_94 mg_69 ⟨by omega, by omega, by omega, by omega⟩ ?_
              have hb94 := hV.b69 ((g * 80) + o)
              refine G_iconst (pc := 95) dX7_nextNow_95 ?_
              refine G_icmp_ne (pc := 96) 116 dX7_nextNow_96 (by decide) (by first | exact hS _ _ | exact hT _ _ | exact ⟨by omega, by omega⟩ | assumption | exact zWM.r (by assumption) _ _ (by decide)) (by first | exact hS _ _ | exact hT _ _ | exact ⟨by omega, by omega⟩ | assumption | exact zWM.r (by assumption) _ _ (by decide)) (fun c96 => ?_) (fun c96 => ?_)
              · refine G_aload_n (pc := 116) 0 1 dX7_nextNow_116 rfl rfl ?_
                refine G_getf (pc := 117) fl_X7_143 dX7_nextNow_117 mg_40 rfl ?_
                have hb117 := hV.f1
                refine G_iconst (pc := 120) dX7_nextNow_120 ?_
                refine G_iadd (pc := 121) dX7_nextNow_121 ?_
                refine G_aload_n (pc := 122) 0 1 dX7_nextNow_122 rfl rfl ?_
                refine G_getf (pc := 123) fl_X7_87 dX7_nextNow_123 mg_40 rfl ?_
                refine G_iload (pc := 126) 0 dX7_nextNow_126 rfl ?_
                refine G_iald (pc := 128) dX7_nextNow_128 mg_71 ⟨by omega, by omega, by omega, by omega⟩ ?_
                have hb128 := hV.b71 ((g * 80) + o)
                refine G_aload_n (pc := 129) 0 1 dX7_nextNow_129 rfl rfl ?_
                refine G_getf (pc := 130) fl_X7_13 dX7_nextNow_130 mg_40 rfl ?_
                have hb130 := hV.f3
                refine G_iadd (pc := 133) dX7_nextNow_133 ?_
                refine G_mmax (pc := 134) mx_X7_125 dX7_nextNow_134 (by first | exact hS _ _ | exact hT _ _ | exact ⟨by omega, by omega⟩ | assumption | exact zWM.r (by assumption) _ _ (by decide)) (by first | exact hS _ _ | exact hT _ _ | exact ⟨by omega, by omega⟩ | assumption | exact zWM.r (by assumption) _ _ (by decide)) ⟨⟨Nat.le_of_ble_eq_true rfl, Nat.le_of_ble_eq_true rfl⟩, Nat.le_of_ble_eq_true rfl, Nat.le_of_ble_eq_true rfl⟩ ?_
                refine G_istore_e (pc := 137) (fun zw => [(5, .int (zI zw)), (4, .int (zI ((g * 80) + o))), (0, .ref (ad (40, 0, 0, 0))), (1, .int (zI g)), (2, .int (zI b)), (3, .int (zI o))]) dX7_nextNow_137 (by decide) (fun _ => rfl) (fun v137 e137 => ?_)
                refine G_iload_n (pc := 139) 2 4 dX7_nextNow_139 rfl rfl ?_
                refine G_iconst (pc := 140) dX7_nextNow_140 ?_
                refine G_icmp_ne (pc := 141) 149 dX7_nextNow_141 (by decide) (by first | exact hS _ _ | exact hT _ _ | exact ⟨by omega, by omega⟩ | assumption | exact zWM.r (by assumption) _ _ (by decide)) (by first | exact hS _ _ | exact hT _ _ | exact ⟨by omega, by omega⟩ | assumption | exact zWM.r (by assumption) _ _ (by decide)) (fun c141 => ?_) (fun c141 => ?_)
                · refine G_iload_n (pc := 149) 2 4 dX7_nextNow_149 rfl rfl ?_
                  refine G_iload (pc := 150) 0 dX7_nextNow_150 rfl ?_
                  refine G_mmin (pc := 152) mx_X7_243 dX7_nextNow_152 (by first | exact hS _ _ | exact hT _ _ | exact ⟨by omega, by omega⟩ | assumption | exact zWM.r (by assumption) _ _ (by decide)) (by first | exact hS _ _ | exact hT _ _ | exact ⟨by omega, by omega⟩ | assumption | exact zWM.r (by assumption) _ _ (by decide)) ⟨⟨Nat.le_of_ble_eq_true rfl, Nat.le_of_ble_eq_true rfl⟩, Nat.le_of_ble_eq_true rfl, Nat.le_of_ble_eq_true rfl⟩ ?_
                  refine G_istore_ne (pc := 155) 2 (fun zw => [(2, .int (zI zw)), (5, .int (zI v137)), (4, .int (zI ((g * 80) + o))), (0, .ref (ad (40, 0, 0, 0))), (1, .int (zI g)), (3, .int (zI o))]) dX7_nextNow_155 rfl (by decide) (fun _ => rfl) (fun v155 e155 => ?_)
                  first | (have hz : mnt Q S g o b = v155 := by rw [e155]; unfold mnt; rw [if_pos hz7]; unfold mnv; first | (rw [if_pos (by omega), if_pos (by omega)]; omega) | (rw [if_pos (by omega), if_neg (by omega)]; omega) | (rw [if_neg (by omega), if_pos (by omega)]; omega) | (rw [if_neg (by omega), if_neg (by omega)]; omega)) | skip
                  refine G_iinc_e (pc := 156) 5 (fun zw => [(3, .int (zI zw)), (2, .int (zI v155)), (5, .int (zI v137)), (4, .int (zI ((g * 80) + o))), (0, .ref (ad (40, 0, 0, 0))), (1, .int (zI g))]) dX7_nextNow_156 rfl (by decide) (fun _ => rfl) (fun v156 e156 => ?_)
                  refine G_goto (pc := 159) 4 dX7_nextNow_159 (by decide) ?_
                  refine G_perm (lv' := [(0, .ref (ad (40, 0, 0, 0))), (1, .int (zI g)), (2, .int (zI v155)), (3, .int (zI v156))]) [4, 5, 1, 0] rfl ?_
                  exact ih4 v155 v156  ⟨by omega, by rw [← hi4.2, lp_step (a := o) (n := S (40, 0, 0, 0) 11) (by omega), e156]; first | rw [hz] | rw [hz9]⟩ (by omega)
                · refine G_iload (pc := 144) 0 dX7_nextNow_144 rfl ?_
                  refine G_goto (pc := 146) 155 dX7_nextNow_146 (by decide) ?_
                  refine G_istore_ne (pc := 155) 2 (fun zw => [(2, .int (zI zw)), (5, .int (zI v137)), (4, .int (zI ((g * 80) + o))), (0, .ref (ad (40, 0, 0, 0))), (1, .int (zI g)), (3, .int (zI o))]) dX7_nextNow_155 rfl (by decide) (fun _ => rfl) (fun v155 e155 => ?_)
                  first | (have hz : mnt Q S g o b = v155 := by rw [e155]; unfold mnt; rw [if_pos hz7]; unfold mnv; first | (rw [if_pos (by omega), if_pos (by omega)]; omega) | (rw [if_pos (by omega), if_neg (by omega)]; omega) | (rw [if_neg (by omega), if_pos (by omega)]; omega) | (rw [if_neg (by omega), if_neg (by omega)]; omega)) | skip
                  refine G_iinc_e (pc := 156) 5 (fun zw => [(3, .int (zI zw)), (2, .int (zI v155)), (5, .int (zI v137)), (4, .int (zI ((g * 80) + o))), (0, .ref (ad (40, 0, 0, 0))), (1, .int (zI g))]) dX7_nextNow_156 rfl (by decide) (fun _ => rfl) (fun v156 e156 => ?_)
                  refine G_goto (pc := 159) 4 dX7_nextNow_159 (by decide) ?_
                  refine G_perm (lv' := [(0, .ref (ad (40, 0, 0, 0))), (1, .int (zI g)), (2, .int (zI v155)), (3, .int (zI v156))]) [4, 5, 1, 0] rfl ?_
                  exact ih4 v155 v156  ⟨by omega, by rw [← hi4.2, lp_step (a := o) (n := S (40, 0, 0, 0) 11) (by omega), e156]; first | rw [hz] | rw [hz9]⟩ (by omega)
              · refine G_aload_n (pc := 99) 0 1 dX7_nextNow_99 rfl rfl ?_
                refine G_getf (pc := 100) fl_X7_143 dX7_nextNow_100 mg_40 rfl ?_
                have hb100 := hV.f1
                refine G_aload_n (pc := 103) 0 1 dX7_nextNow_103 rfl rfl ?_
                refine G_getf (pc := 104) fl_X7_87 dX7_nextNow_104 mg_40 rfl ?_
                refine G_iload (pc := 107) 0 dX7_nextNow_107 rfl ?_
                refine G_iald (pc := 109) dX7_nextNow_109 mg_71 ⟨by omega, by omega, by omega, by omega⟩ ?_
                have hb109 := hV.b71 ((g * 80) + o)
                refine G_mmax (pc := 110) mx_X7_125 dX7_nextNow_110 (by first | exact hS _ _ | exact hT _ _ | exact ⟨by omega, by omega⟩ | assumption | exact zWM.r (by assumption) _ _ (by decide)) (by first | exact hS _ _ | exact hT _ _ | exact ⟨by omega, by omega⟩ | assumption | exact zWM.r (by assumption) _ _ (by decide)) ⟨⟨Nat.le_of_ble_eq_true rfl, Nat.le_of_ble_eq_true rfl⟩, Nat.le_of_ble_eq_true rfl, Nat.le_of_ble_eq_true rfl⟩ ?_
                refine G_goto (pc := 113) 137 dX7_nextNow_113 (by decide) ?_
                refine G_istore_e (pc := 137) (fun zw => [(5, .int (zI zw)), (4, .int (zI ((g * 80) + o))), (0, .ref (ad (40, 0, 0, 0))), (1, .int (zI g)), (2, .int (zI b)), (3, .int (zI o))]) dX7_nextNow_137 (by decide) (fun _ => rfl) (fun v137 e137 => ?_)
                refine G_iload_n (pc := 139) 2 4 dX7_nextNow_139 rfl rfl ?_
                refine G_iconst (pc := 140) dX7_nextNow_140 ?_
                refine G_icmp_ne (pc := 141) 149 dX7_nextNow_141 (by decide) (by first | exact hS _ _ | exact hT _ _ | exact ⟨by omega, by omega⟩ | assumption | exact zWM.r (by assumption) _ _ (by decide)) (by first | exact hS _ _ | exact hT _ _ | exact ⟨by omega, by omega⟩ | assumption | exact zWM.r (by assumption) _ _ (by decide)) (fun c141 => ?_) (fun c141 => ?_)
                · refine G_iload_n (pc := 149) 2 4 dX7_nextNow_149 rfl rfl ?_
                  refine G_iload (pc := 150) 0 dX7_nextNow_150 rfl ?_
                  refine G_mmin (pc := 152) mx_X7_243 dX7_nextNow_152 (by first | exact hS _ _ | exact hT _ _ | exact ⟨by omega, by omega⟩ | assumption | exact zWM.r (by assumption) _ _ (by decide)) (by first | exact hS _ _ | exact hT _ _ | exact ⟨by omega, by omega⟩ | assumption | exact zWM.r (by assumption) _ _ (by decide)) ⟨⟨Nat.le_of_ble_eq_true rfl, Nat.le_of_ble_eq_true rfl⟩, Nat.le_of_ble_eq_true rfl, Nat.le_of_ble_eq_true rfl⟩ ?_
                  refine G_istore_ne (pc := 155) 2 (fun zw => [(2, .int (zI zw)), (5, .int (zI v137)), (4, .int (zI ((g * 80) + o))), (0, .ref (ad (40, 0, 0, 0))), (1, .int (zI g)), (3, .int (zI o))]) dX7_nextNow_155 rfl (by decide) (fun _ => rfl) (fun v155 e155 => ?_)
                  first | (have hz : mnt Q S g o b = v155 := by rw [e155]; unfold mnt; rw [if_pos hz7]; unfold mnv; first | (rw [if_pos (by omega), if_pos (by omega)]; omega) | (rw [if_pos (by omega), if_neg (by omega)]; omega) | (rw [if_neg (by omega), if_pos (by omega)]; omega) | (rw [if_neg (by omega), if_neg (by omega)]; omega)) | skip
                  refine G_iinc_e (pc := 156) 5 (fun zw => [(3, .int (zI zw)), (2, .int (zI v155)), (5, .int (zI v137)), (4, .int (zI ((g * 80) + o))), (0, .ref (ad (40, 0, 0, 0))), (1, .int (zI g))]) dX7_nextNow_156 rfl (by decide) (fun _ => rfl) (fun v156 e156 => ?_)
                  refine G_goto (pc := 159) 4 dX7_nextNow_159 (by decide) ?_
                  refine G_perm (lv' := [(0, .ref (ad (40, 0, 0, 0))), (1, .int (zI g)), (2, .int (zI v155)), (3, .int (zI v156))]) [4, 5, 1, 0] rfl ?_
                  exact ih4 v155 v156  ⟨by omega, by rw [← hi4.2, lp_step (a := o) (n := S (40, 0, 0, 0) 11) (by omega), e156]; first | rw [hz] | rw [hz9]⟩ (by omega)
                · refine G_iload (pc := 144) 0 dX7_nextNow_144 rfl ?_
                  refine G_goto (pc := 146) 155 dX7_nextNow_146 (by decide) ?_
                  refine G_istore_ne (pc := 155) 2 (fun zw => [(2, .int (zI zw)), (5, .int (zI v137)), (4, .int (zI ((g * 80) + o))), (0, .ref (ad (40, 0, 0, 0))), (1, .int (zI g)), (3, .int (zI o))]) dX7_nextNow_155 rfl (by decide) (fun _ => rfl) (fun v155 e155 => ?_)
                  first | (have hz : mnt Q S g o b = v155 := by rw [e155]; unfold mnt; rw [if_pos hz7]; unfold mnv; first | (rw [if_pos (by omega), if_pos (by omega)]; omega) | (rw [if_pos (by omega), if_neg (by omega)]; omega) | (rw [if_neg (by omega), if_pos (by omega)]; omega) | (rw [if_neg (by omega), if_neg (by omega)]; omega)) | skip
                  refine G_iinc_e (pc := 156) 5 (fun zw => [(3, .int (zI zw)), (2, .int (zI v155)), (5, .int (zI v137)), (4, .int (zI ((g * 80) + o))), (0, .ref (ad (40, 0, 0, 0))), (1, .int (zI g))]) dX7_nextNow_156 rfl (by decide) (fun _ => rfl) (fun v156 e156 => ?_)
                  refine G_goto (pc := 159) 4 dX7_nextNow_159 (by decide) ?_
                  refine G_perm (lv' := [(0, .ref (ad (40, 0, 0, 0))), (1, .int (zI g)), (2, .int (zI v155)), (3, .int (zI v156))]) [4, 5, 1, 0] rfl ?_
                  exact ih4 v155 v156  ⟨by omega, by rw [← hi4.2, lp_step (a := o) (n := S (40, 0, 0, 0) 11) (by omega), e156]; first | rw [hz] | rw [hz9]⟩ (by omega)
            · refine G_aload_n (pc := 74) 0 1 dX7_nextNow_74 rfl rfl ?_
              refine G_getf (pc := 75) fl_X7_81 dX7_nextNow_75 mg_40 rfl ?_
              refine G_iload (pc := 78) 0 dX7_nextNow_78 rfl ?_
              refine G_iald (pc := 80) dX7_nextNow_80 mg_69 ⟨by omega, by omega, by omega, by omega⟩ ?_
              have hb80 := hV.b69 ((g * 80) + o)
              refine G_iconst (pc := 81) dX7_nextNow_81 ?_
              refine G_icmp_eq (pc := 82) 88 dX7_nextNow_82 (by decide) (by first | exact hS _ _ | exact hT _ _ | exact ⟨by omega, by omega⟩ | assumption | exact zWM.r (by assumption) _ _ (by decide)) (by first | exact hS _ _ | exact hT _ _ | exact ⟨by omega, by omega⟩ | assumption | exact zWM.r (by assumption) _ _ (by decide)) (fun c82 => ?_) (fun c82 => ?_)
              · have hz7 : mnq Q S g o := ⟨⟨by omega, by omega⟩, by omega⟩
                refine G_aload_n (pc := 88) 0 1 dX7_nextNow_88 rfl rfl ?_
                refine G_getf (pc := 89) fl_X7_81 dX7_nextNow_89 mg_40 rfl ?_
                refine G_iload (pc := 92) 0 dX7_nextNow_92 rfl ?_
                refine G_iald (pc := 94) dX7_nextNow_94 mg_69 ⟨by omega, by omega, by omega, by omega⟩ ?_
                have hb94 := hV.b69 ((g * 80) + o)
                refine G_iconst (pc := 95) dX7_nextNow_95 ?_
                refine G_icmp_ne (pc := 96) 116 dX7_nextNow_96 (by decide) (by first | exact hS _ _ | exact hT _ _ | exact ⟨by omega, by omega⟩ | assumption | exact zWM.r (by assumption) _ _ (by decide)) (by first | exact hS _ _ | exact hT _ _ | exact ⟨by omega, by omega⟩ | assumption | exact zWM.r (by assumption) _ _ (by decide)) (fun c96 => ?_) (fun c96 => ?_)
                · refine G_aload_n (pc := 116) 0 1 dX7_nextNow_116 rfl rfl ?_
                  refine G_getf (pc := 117) fl_X7_143 dX7_nextNow_117 mg_40 rfl ?_
                  have hb117 := hV.f1
                  refine G_iconst (pc := 120) dX7_nextNow_120 ?_
                  refine G_iadd (pc := 121) dX7_nextNow_121 ?_
                  refine G_aload_n (pc := 122) 0 1 dX7_nextNow_122 rfl rfl ?_
                  refine G_getf (pc := 123) fl_X7_87 dX7_nextNow_123 mg_40 rfl ?_
                  refine G_iload (pc := 126) 0 dX7_nextNow_126 rfl ?_
                  refine G_iald (pc := 128) dX7_nextNow_128 mg_71 ⟨by omega, by omega, by omega, by omega⟩ ?_
                  have hb128 := hV.b71 ((g * 80) + o)
                  refine G_aload_n (pc := 129) 0 1 dX7_nextNow_129 rfl rfl ?_
                  refine G_getf (pc := 130) fl_X7_13 dX7_nextNow_130 mg_40 rfl ?_
                  have hb130 := hV.f3
                  refine G_iadd (pc := 133) dX7_nextNow_133 ?_
                  refine G_mmax (pc := 134) mx_X7_125 dX7_nextNow_134 (by first | exact hS _ _ | exact hT _ _ | exact ⟨by omega, by omega⟩ | assumption | exact zWM.r (by assumption) _ _ (by decide)) (by first | exact hS _ _ | exact hT _ _ | exact ⟨by omega, by omega⟩ | assumption | exact zWM.r (by assumption) _ _ (by decide)) ⟨⟨Nat.le_of_ble_eq_true rfl, Nat.le_of_ble_eq_true rfl⟩, Nat.le_of_ble_eq_true rfl, Nat.le_of_ble_eq_true rfl⟩ ?_
                  refine G_istore_e (pc := 137) (fun zw => [(5, .int (zI zw)), (4, .int (zI ((g * 80) + o))), (0, .ref (ad (40, 0, 0, 0))), (1, .int (zI g)), (2, .int (zI b)), (3, .int (zI o))]) dX7_nextNow_137 (by decide) (fun _ => rfl) (fun v137 e137 => ?_)
                  refine G_iload_n (pc := 139) 2 4 dX7_nextNow_139 rfl rfl ?_
                  refine G_iconst (pc := 140) dX7_nextNow_140 ?_
                  refine G_icmp_ne (pc := 141) 149 dX7_nextNow_141 (by decide) (by first | exact hS _ _ | exact hT _ _ | exact ⟨by omega, by omega⟩ | assumption | exact zWM.r (by assumption) _ _ (by decide)) (by first | exact hS _ _ | exact hT _ _ | exact ⟨by omega, by omega⟩ | assumption | exact zWM.r (by assumption) _ _ (by decide)) (fun c141 => ?_) (fun c141 => ?_)
                  · refine G_iload_n (pc := 149) 2 4 dX7_nextNow_149 rfl rfl ?_
                    refine G_iload (pc := 150) 0 dX7_nextNow_150 rfl ?_
                    refine G_mmin (pc := 152) mx_X7_243 dX7_nextNow_152 (by first | exact hS _ _ | exact hT _ _ | exact ⟨by omega, by omega⟩ | assumption | exact zWM.r (by assumption) _ _ (by decide)) (by first | exact hS _ _ | exact hT _ _ | exact ⟨by omega, by omega⟩ | assumption | exact zWM.r (by assumption) _ _ (by decide)) ⟨⟨Nat.le_of_ble_eq_true rfl, Nat.le_of_ble_eq_true rfl⟩, Nat.le_of_ble_eq_true rfl, Nat.le_of_ble_eq_true rfl⟩ ?_
                    refine G_istore_ne (pc := 155) 2 (fun zw => [(2, .int (zI zw)), (5, .int (zI v137)), (4, .int (zI ((g * 80) + o))), (0, .ref (ad (40, 0, 0, 0))), (1, .int (zI g)), (3, .int (zI o))]) dX7_nextNow_155 rfl (by decide) (fun _ => rfl) (fun v155 e155 => ?_)
                    first | (have hz : mnt Q S g o b = v155 := by rw [e155]; unfold mnt; rw [if_pos hz7]; unfold mnv; first | (rw [if_pos (by omega), if_pos (by omega)]; omega) | (rw [if_pos (by omega), if_neg (by omega)]; omega) | (rw [if_neg (by omega), if_pos (by omega)]; omega) | (rw [if_neg (by omega), if_neg (by omega)]; omega)) | skip
                    refine G_iinc_e (pc := 156) 5 (fun zw => [(3, .int (zI zw)), (2, .int (zI v155)), (5, .int (zI v137)), (4, .int (zI ((g * 80) + o))), (0, .ref (ad (40, 0, 0, 0))), (1, .int (zI g))]) dX7_nextNow_156 rfl (by decide) (fun _ => rfl) (fun v156 e156 => ?_)
                    refine G_goto (pc := 159) 4 dX7_nextNow_159 (by decide) ?_
                    refine G_perm (lv' := [(0, .ref (ad (40, 0, 0, 0))), (1, .int (zI g)), (2, .int (zI v155)), (3, .int (zI v156))]) [4, 5, 1, 0] rfl ?_
                    exact ih4 v155 v156  ⟨by omega, by rw [← hi4.2, lp_step (a := o) (n := S (40, 0, 0, 0) 11) (by omega), e156]; first | rw [hz] | rw [hz9]⟩ (by omega)
                  · refine G_iload (pc := 144) 0 dX7_nextNow_144 rfl ?_
                    refine G_goto (pc := 146) 155 dX7_nextNow_146 (by decide) ?_
                    refine G_istore_ne (pc := 155) 2 (fun zw => [(2, .int (zI zw)), (5, .int (zI v137)), (4, .int (zI ((g * 80) + o))), (0, .ref (ad (40, 0, 0, 0))), (1, .int (zI g)), (3, .int (zI o))]) dX7_nextNow_155 rfl (by decide) (fun _ => rfl) (fun v155 e155 => ?_)
                    first | (have hz : mnt Q S g o b = v155 := by rw [e155]; unfold mnt; rw [if_pos hz7]; unfold mnv; first | (rw [if_pos (by omega), if_pos (by omega)]; omega) | (rw [if_pos (by omega), if_neg (by omega)]; omega) | (rw [if_neg (by omega), if_pos (by omega)]; omega) | (rw [if_neg (by omega), if_neg (by omega)]; omega)) | skip
                    refine G_iinc_e (pc := 156) 5 (fun zw => [(3, .int (zI zw)), (2, .int (zI v155)), (5, .int (zI v137)), (4, .int (zI ((g * 80) + o))), (0, .ref (ad (40, 0, 0, 0))), (1, .int (zI g))]) dX7_nextNow_156 rfl (by decide) (fun _ => rfl) (fun v156 e156 => ?_)
                    refine G_goto (pc := 159) 4 dX7_nextNow_159 (by decide) ?_
                    refine G_perm (lv' := [(0, .ref (ad (40, 0, 0, 0))), (1, .int (zI g)), (2, .int (zI v155)), (3, .int (zI v156))]) [4, 5, 1, 0] rfl ?_
                    exact ih4 v155 v156  ⟨by omega, by rw [← hi4.2, lp_step (a := o) (n := S (40, 0, 0, 0) 11) (by omega), e156]; first | rw [hz] | rw [hz9]⟩ (by omega)
                · refine G_aload_n (pc := 99) 0 1 dX7_nextNow_99 rfl rfl ?_
                  refine G_getf (pc := 100) fl_X7_143 dX7_nextNow_100 mg_40 rfl ?_
                  have hb100 := hV.f1
                  refine G_aload_n (pc := 103) 0 1 dX7_nextNow_103 rfl rfl ?_
                  refine G_getf (pc := 104) fl_X7_87 dX7_nextNow_104 mg_40 rfl ?_
                  refine G_iload (pc := 107) 0 dX7_nextNow_107 rfl ?_
                  refine G_iald (pc := 109) dX7_nextNow_109 mg_71 ⟨by omega, by omega, by omega, by omega⟩ ?_
                  have hb109 := hV.b71 ((g * 80) + o)
                  refine G_mmax (pc := 110) mx_X7_125 dX7_nextNow_110 (by first | exact hS _ _ | exact hT _ _ | exact ⟨by omega, by omega⟩ | assumption | exact zWM.r (by assumption) _ _ (by decide)) (by first | exact hS _ _ | exact hT _ _ | exact ⟨by omega, by omega⟩ | assumption | exact zWM.r (by assumption) _ _ (by decide)) ⟨⟨Nat.le_of_ble_eq_true rfl, Nat.le_of_ble_eq_true rfl⟩, Nat.le_of_ble_eq_true rfl, Nat.le_of_ble_eq_true rfl⟩ ?_
                  refine G_goto (pc := 113) 137 dX7_nextNow_113 (by decide) ?_
                  refine G_istore_e (pc := 137) (fun zw => [(5, .int (zI zw)), (4, .int (zI ((g * 80) + o))), (0, .ref (ad (40, 0, 0, 0))), (1, .int (zI g)), (2, .int (zI b)), (3, .int (zI o))]) dX7_nextNow_137 (by decide) (fun _ => rfl) (fun v137 e137 => ?_)
                  refine G_iload_n (pc := 139) 2 4 dX7_nextNow_139 rfl rfl ?_
                  refine G_iconst (pc := 140) dX7_nextNow_140 ?_
                  refine G_icmp_ne (pc := 141) 149 dX7_nextNow_141 (by decide) (by first | exact hS _ _ | exact hT _ _ | exact ⟨by omega, by omega⟩ | assumption | exact zWM.r (by assumption) _ _ (by decide)) (by first | exact hS _ _ | exact hT _ _ | exact ⟨by omega, by omega⟩ | assumption | exact zWM.r (by assumption) _ _ (by decide)) (fun c141 => ?_) (fun c141 => ?_)
                  · refine G_iload_n (pc := 149) 2 4 dX7_nextNow_149 rfl rfl ?_
                    refine G_iload (pc := 150) 0 dX7_nextNow_150 rfl ?_
                    refine G_mmin (pc := 152) mx_X7_243 dX7_nextNow_152 (by first | exact hS _ _ | exact hT _ _ | exact ⟨by omega, by omega⟩ | assumption | exact zWM.r (by assumption) _ _ (by decide)) (by first | exact hS _ _ | exact hT _ _ | exact ⟨by omega, by omega⟩ | assumption | exact zWM.r (by assumption) _ _ (by decide)) ⟨⟨Nat.le_of_ble_eq_true rfl, Nat.le_of_ble_eq_true rfl⟩, Nat.le_of_ble_eq_true rfl, Nat.le_of_ble_eq_true rfl⟩ ?_
                    refine G_istore_ne (pc := 155) 2 (fun zw => [(2, .int (zI zw)), (5, .int (zI v137)), (4, .int (zI ((g * 80) + o))), (0, .ref (ad (40, 0, 0, 0))), (1, .int (zI g)), (3, .int (zI o))]) dX7_nextNow_155 rfl (by decide) (fun _ => rfl) (fun v155 e155 => ?_)
                    first | (have hz : mnt Q S g o b = v155 := by rw [e155]; unfold mnt; rw [if_pos hz7]; unfold mnv; first | (rw [if_pos (by omega), if_pos (by omega)]; omega) | (rw [if_pos (by omega), if_neg (by omega)]; omega) | (rw [if_neg (by omega), if_pos (by omega)]; omega) | (rw [if_neg (by omega), if_neg (by omega)]; omega)) | skip
                    refine G_iinc_e (pc := 156) 5 (fun zw => [(3, .int (zI zw)), (2, .int (zI v155)), (5, .int (zI v137)), (4, .int (zI ((g * 80) + o))), (0, .ref (ad (40, 0, 0, 0))), (1, .int (zI g))]) dX7_nextNow_156 rfl (by decide) (fun _ => rfl) (fun v156 e156 => ?_)
                    refine G_goto (pc := 159) 4 dX7_nextNow_159 (by decide) ?_
                    refine G_perm (lv' := [(0, .ref (ad (40, 0, 0, 0))), (1, .int (zI g)), (2, .int (zI v155)), (3, .int (zI v156))]) [4, 5, 1, 0] rfl ?_
                    exact ih4 v155 v156  ⟨by omega, by rw [← hi4.2, lp_step (a := o) (n := S (40, 0, 0, 0) 11) (by omega), e156]; first | rw [hz] | rw [hz9]⟩ (by omega)
                  · refine G_iload (pc := 144) 0 dX7_nextNow_144 rfl ?_
                    refine G_goto (pc := 146) 155 dX7_nextNow_146 (by decide) ?_
                    refine G_istore_ne (pc := 155) 2 (fun zw => [(2, .int (zI zw)), (5, .int (zI v137)), (4, .int (zI ((g * 80) + o))), (0, .ref (ad (40, 0, 0, 0))), (1, .int (zI g)), (3, .int (zI o))]) dX7_nextNow_155 rfl (by decide) (fun _ => rfl) (fun v155 e155 => ?_)
                    first | (have hz : mnt Q S g o b = v155 := by rw [e155]; unfold mnt; rw [if_pos hz7]; unfold mnv; first | (rw [if_pos (by omega), if_pos (by omega)]; omega) | (rw [if_pos (by omega), if_neg (by omega)]; omega) | (rw [if_neg (by omega), if_pos (by omega)]; omega) | (rw [if_neg (by omega), if_neg (by omega)]; omega)) | skip
                    refine G_iinc_e (pc := 156) 5 (fun zw => [(3, .int (zI zw)), (2, .int (zI v155)), (5, .int (zI v137)), (4, .int (zI ((g * 80) + o))), (0, .ref (ad (40, 0, 0, 0))), (1, .int (zI g))]) dX7_nextNow_156 rfl (by decide) (fun _ => rfl) (fun v156 e156 => ?_)
                    refine G_goto (pc := 159) 4 dX7_nextNow_159 (by decide) ?_
                    refine G_perm (lv' := [(0, .ref (ad (40, 0, 0, 0))), (1, .int (zI g)), (2, .int (zI v155)), (3, .int (zI v156))]) [4, 5, 1, 0] rfl ?_
                    exact ih4 v155 v156  ⟨by omega, by rw [← hi4.2, lp_step (a := o) (n := S (40, 0, 0, 0) 11) (by omega), e156]; first | rw [hz] | rw [hz9]⟩ (by omega)
              · have hz9 : mnt Q S g o b = b := if_neg (fun h => by have h7 := h.2; omega)
                refine G_goto (pc := 85) 156 dX7_nextNow_85 (by decide) ?_
                first | (have hz : mnt Q S g o b = v155 := by rw [e155]; unfold mnt; rw [if_pos hz7]; unfold mnv; first | (rw [if_pos (by omega), if_pos (by omega)]; omega) | (rw [if_pos (by omega), if_neg (by omega)]; omega) | (rw [if_neg (by omega), if_pos (by omega)]; omega) | (rw [if_neg (by omega), if_neg (by omega)]; omega)) | skip
                refine G_iinc_e (pc := 156) 4 (fun zw => [(3, .int (zI zw)), (4, .int (zI ((g * 80) + o))), (0, .ref (ad (40, 0, 0, 0))), (1, .int (zI g)), (2, .int (zI b))]) dX7_nextNow_156 rfl (by decide) (fun _ => rfl) (fun v156 e156 => ?_)
                refine G_goto (pc := 159) 4 dX7_nextNow_159 (by decide) ?_
                refine G_perm (lv' := [(0, .ref (ad (40, 0, 0, 0))), (1, .int (zI g)), (2, .int (zI b)), (3, .int (zI v156))]) [2, 3, 4, 0] rfl ?_
                exact ih4 b v156  ⟨by omega, by rw [← hi4.2, lp_step (a := o) (n := S (40, 0, 0, 0) 11) (by omega), e156]; first | rw [hz] | rw [hz9]⟩ (by omega)
  refine G_perm (lv' := [(0, .ref (ad (40, 0, 0, 0))), (1, .int (zI g)), (2, .int (zI v1)), (3, .int (zI v3))]) [2, 3, 1, 0] rfl ?_
  exact L4 _ v1 v3  ⟨by omega, by rw [e1, e3]; rfl⟩ (Nat.lt_succ_self _)
