set_option maxHeartbeats 4000000 in
set_option maxRecDepth 100000 in
theorem c_X5_countOutdated {l : Launch} {Δ : zDl} {ad : zK → Nat} {P : zP} {S : zS} {X : zMem} {t : Int} (hP : zWP P) (ht : 0 ≤ t ∧ t < P 0 0 0) (hW : zWS P S) : zMn l Δ yX5_countOutdated cX5_countOutdated 3 (some .int) 7 0 0 [.ref (ad (8, t, 0, 0))] ad (mm Δ ad P S X) (zD (some (.int (zI (sm (fun p => ztc P S t p) 0 (P 1 t 0))))) ad (mm Δ ad P S X)) := by
  refine zMn_of (by decide) (Nat.le_of_ble_eq_true rfl) (fun Γ hl hΔ hF => ?_)
  subst hl hΔ
  show G Γ _ _ _ RX5 _ _ _ _ _ [(0, .ref (ad (8, t, 0, 0)))] []
  have hN := hP.t ht
  have hS := hW.R
  have hb := hW.b
  refine G_iconst (pc := 0) dX5_countOutdated_0 ?_
  refine G_istore_ne (pc := 1) 1 (fun w => [(1, .int (zI w)), (0, .ref (ad (8, t, 0, 0)))]) dX5_countOutdated_1 rfl (by decide) (fun _ => rfl) (fun v1 e1 => ?_)
  refine G_iconst (pc := 2) dX5_countOutdated_2 ?_
  refine G_istore_ne (pc := 3) 2 (fun w => [(2, .int (zI w)), (1, .int (zI v1)), (0, .ref (ad (8, t, 0, 0)))]) dX5_countOutdated_3 rfl (by decide) (fun _ => rfl) (fun v3 e3 => ?_)
  have L4 : ∀ (n : Nat) (m : Int) (p : Int), ((0 ≤ p ∧ p ≤ P 1 t 0) ∧ m + sm (fun p => ztc P S t p) p (P 1 t 0) = sm (fun p => ztc P S t p) 0 (P 1 t 0)) → (P 1 t 0 - p).toNat < n → G Γ (zRm 7 0 0) cX5_countOutdated 3 RX5 ad (mm (z_d Γ) ad P S X) 0 0 4 [(0, .ref (ad (8, t, 0, 0))), (1, .int (zI m)), (2, .int (zI p))] [] := by
    intro n
    induction n with
    | zero => intro m p _ hn; omega
    | succ n ih4 =>
      intro m p hi4 hn4
      refine G_iload_n (pc := 4) 2 2 dX5_countOutdated_4 rfl rfl ?_
      refine G_aload_n (pc := 5) 0 0 dX5_countOutdated_5 rfl rfl ?_
      refine G_getf (pc := 6) fl_X5_25 dX5_countOutdated_6 (mg_8 (by first | assumption | omega | exact ⟨by omega, by omega⟩ | exact hS _ _ | exact hT _ _)) rfl ?_
      refine G_alen (pc := 9) (t := 2) rfl dX5_countOutdated_9 (mg_9 (by first | assumption | omega | exact ⟨by omega, by omega⟩ | exact hS _ _ | exact hT _ _)) ?_
      refine G_icmp_ge (pc := 10) 31 dX5_countOutdated_10 (by decide) (by first | exact hS _ _ | exact hT _ _ | exact ⟨by omega, by omega⟩ | assumption) (by first | exact hS _ _ | exact hT _ _ | exact ⟨by omega, by omega⟩ | assumption) (fun c10 => ?_) (fun c10 => ?_)
      · refine G_iload_n (pc := 31) 1 1 dX5_countOutdated_31 rfl rfl ?_
        exact G_iret_d (pc := 32) hF dX5_countOutdated_32 ⟨Nat.le_of_ble_eq_true rfl, Nat.le_of_ble_eq_true rfl⟩ (by rw [← hi4.2, sm_end (by omega)]; omega)
      · refine G_iload_n (pc := 13) 1 1 dX5_countOutdated_13 rfl rfl ?_
        refine G_aload_n (pc := 14) 0 0 dX5_countOutdated_14 rfl rfl ?_
        refine G_getf (pc := 15) fl_X5_25 dX5_countOutdated_15 (mg_8 (by first | assumption | omega | exact ⟨by omega, by omega⟩ | exact hS _ _ | exact hT _ _)) rfl ?_
        refine G_iload_n (pc := 18) 2 2 dX5_countOutdated_18 rfl rfl ?_
        refine G_aald (pc := 19) (t := 2) rfl dX5_countOutdated_19 (mg_9 (by first | assumption | omega | exact ⟨by omega, by omega⟩ | exact hS _ _ | exact hT _ _)) ⟨by omega, by omega, by omega, by omega⟩ rfl ?_
        refine G_callVd (pc := 20) gk_X5_45 dX5_countOutdated_20 (mg_11 (by first | assumption | omega | exact ⟨by omega, by omega⟩ | exact hS _ _ | exact hT _ _)) rfl (c_X3_countOutdated (by first | assumption | omega | exact ⟨by omega, by omega⟩ | exact hS _ _ | exact hT _ _) (by first | assumption | omega | exact ⟨by omega, by omega⟩ | exact hS _ _ | exact hT _ _) (by first | assumption | omega | exact ⟨by omega, by omega⟩ | exact hS _ _ | exact hT _ _) (by first | assumption | omega | exact ⟨by omega, by omega⟩ | exact hS _ _ | exact hT _ _)) rfl rfl (Nat.le_of_ble_eq_true rfl) ⟨⟨Nat.le_of_ble_eq_true rfl, Nat.le_of_ble_eq_true rfl⟩, Nat.le_of_ble_eq_true rfl, Nat.le_of_ble_eq_true rfl⟩ ?_
        refine G_iadd (pc := 23) dX5_countOutdated_23 ?_
        refine G_istore_ne (pc := 24) 1 (fun w => [(1, .int (zI w)), (0, .ref (ad (8, t, 0, 0))), (2, .int (zI p))]) dX5_countOutdated_24 rfl (by decide) (fun _ => rfl) (fun v24 e24 => ?_)
        refine G_iinc_e (pc := 25) 2 (fun w => [(2, .int (zI w)), (1, .int (zI v24)), (0, .ref (ad (8, t, 0, 0)))]) dX5_countOutdated_25 rfl (by decide) (fun _ => rfl) (fun v25 e25 => ?_)
        refine G_goto (pc := 28) 4 dX5_countOutdated_28 (by decide) ?_
        refine G_perm (lv' := [(0, .ref (ad (8, t, 0, 0))), (1, .int (zI v24)), (2, .int (zI v25))]) [2, 1, 0] rfl ?_
        exact ih4 v24 v25  ⟨by omega, by rw [e24, e25, ← hi4.2, sm_step (a := p) (n := P 1 t 0) (by omega)]; show m + ztc P S t p + _ = _; omega⟩ (by omega)
  refine G_perm (lv' := [(0, .ref (ad (8, t, 0, 0))), (1, .int (zI v1)), (2, .int (zI v3))]) [2, 1, 0] rfl ?_
  exact L4 _ v1 v3  ⟨by omega, by subst e1 e3; exact Int.zero_add _⟩ (Nat.lt_succ_self _)
set_option maxHeartbeats 4000000 in
set_option maxRecDepth 100000 in
theorem c_X5_countKept {l : Launch} {Δ : zDl} {ad : zK → Nat} {P : zP} {S : zS} {X : zMem} {t : Int} (hP : zWP P) (ht : 0 ≤ t ∧ t < P 0 0 0) (hW : zWS P S) : zMn l Δ yX5_countKept cX5_countKept 3 (some .int) 6 0 0 [.ref (ad (8, t, 0, 0))] ad (mm Δ ad P S X) (zD (some (.int (zI (sm (fun p => ztk P S t p) 0 (P 1 t 0))))) ad (mm Δ ad P S X)) := by
  refine zMn_of (by decide) (Nat.le_of_ble_eq_true rfl) (fun Γ hl hΔ hF => ?_)
  subst hl hΔ
  show G Γ _ _ _ RX5 _ _ _ _ _ [(0, .ref (ad (8, t, 0, 0)))] []
  have hN := hP.t ht
  have hS := hW.R
  have hb := hW.b
  refine G_iconst (pc := 0) dX5_countKept_0 ?_
  refine G_istore_ne (pc := 1) 1 (fun w => [(1, .int (zI w)), (0, .ref (ad (8, t, 0, 0)))]) dX5_countKept_1 rfl (by decide) (fun _ => rfl) (fun v1 e1 => ?_)
  refine G_iconst (pc := 2) dX5_countKept_2 ?_
  refine G_istore_ne (pc := 3) 2 (fun w => [(2, .int (zI w)), (1, .int (zI v1)), (0, .ref (ad (8, t, 0, 0)))]) dX5_countKept_3 rfl (by decide) (fun _ => rfl) (fun v3 e3 => ?_)
  have L4 : ∀ (n : Nat) (m : Int) (p : Int), ((0 ≤ p ∧ p ≤ P 1 t 0) ∧ m + sm (fun p => ztk P S t p) p (P 1 t 0) = sm (fun p => ztk P S t p) 0 (P 1 t 0)) → (P 1 t 0 - p).toNat < n → G Γ (zRm 6 0 0) cX5_countKept 3 RX5 ad (mm (z_d Γ) ad P S X) 0 0 4 [(0, .ref (ad (8, t, 0, 0))), (1, .int (zI m)), (2, .int (zI p))] [] := by
    intro n
    induction n with
    | zero => intro m p _ hn; omega
    | succ n ih4 =>
      intro m p hi4 hn4
      refine G_iload_n (pc := 4) 2 2 dX5_countKept_4 rfl rfl ?_
      refine G_aload_n (pc := 5) 0 0 dX5_countKept_5 rfl rfl ?_
      refine G_getf (pc := 6) fl_X5_25 dX5_countKept_6 (mg_8 (by first | assumption | omega | exact ⟨by omega, by omega⟩ | exact hS _ _ | exact hT _ _)) rfl ?_
      refine G_alen (pc := 9) (t := 2) rfl dX5_countKept_9 (mg_9 (by first | assumption | omega | exact ⟨by omega, by omega⟩ | exact hS _ _ | exact hT _ _)) ?_
      refine G_icmp_ge (pc := 10) 31 dX5_countKept_10 (by decide) (by first | exact hS _ _ | exact hT _ _ | exact ⟨by omega, by omega⟩ | assumption) (by first | exact hS _ _ | exact hT _ _ | exact ⟨by omega, by omega⟩ | assumption) (fun c10 => ?_) (fun c10 => ?_)
      · refine G_iload_n (pc := 31) 1 1 dX5_countKept_31 rfl rfl ?_
        exact G_iret_d (pc := 32) hF dX5_countKept_32 ⟨Nat.le_of_ble_eq_true rfl, Nat.le_of_ble_eq_true rfl⟩ (by rw [← hi4.2, sm_end (by omega)]; omega)
      · refine G_iload_n (pc := 13) 1 1 dX5_countKept_13 rfl rfl ?_
        refine G_aload_n (pc := 14) 0 0 dX5_countKept_14 rfl rfl ?_
        refine G_getf (pc := 15) fl_X5_25 dX5_countKept_15 (mg_8 (by first | assumption | omega | exact ⟨by omega, by omega⟩ | exact hS _ _ | exact hT _ _)) rfl ?_
        refine G_iload_n (pc := 18) 2 2 dX5_countKept_18 rfl rfl ?_
        refine G_aald (pc := 19) (t := 2) rfl dX5_countKept_19 (mg_9 (by first | assumption | omega | exact ⟨by omega, by omega⟩ | exact hS _ _ | exact hT _ _)) ⟨by omega, by omega, by omega, by omega⟩ rfl ?_
        refine G_callVd (pc := 20) gk_X5_48 dX5_countKept_20 (mg_11 (by first | assumption | omega | exact ⟨by omega, by omega⟩ | exact hS _ _ | exact hT _ _)) rfl (c_X3_countKept (by first | assumption | omega | exact ⟨by omega, by omega⟩ | exact hS _ _ | exact hT _ _) (by first | assumption | omega | exact ⟨by omega, by omega⟩ | exact hS _ _ | exact hT _ _) (by first | assumption | omega | exact ⟨by omega, by omega⟩ | exact hS _ _ | exact hT _ _) (by first | assumption | omega | exact ⟨by omega, by omega⟩ | exact hS _ _ | exact hT _ _)) rfl rfl (Nat.le_of_ble_eq_true rfl) ⟨⟨Nat.le_of_ble_eq_true rfl, Nat.le_of_ble_eq_true rfl⟩, Nat.le_of_ble_eq_true rfl, Nat.le_of_ble_eq_true rfl⟩ ?_
        refine G_iadd (pc := 23) dX5_countKept_23 ?_
        refine G_istore_ne (pc := 24) 1 (fun w => [(1, .int (zI w)), (0, .ref (ad (8, t, 0, 0))), (2, .int (zI p))]) dX5_countKept_24 rfl (by decide) (fun _ => rfl) (fun v24 e24 => ?_)
        refine G_iinc_e (pc := 25) 2 (fun w => [(2, .int (zI w)), (1, .int (zI v24)), (0, .ref (ad (8, t, 0, 0)))]) dX5_countKept_25 rfl (by decide) (fun _ => rfl) (fun v25 e25 => ?_)
        refine G_goto (pc := 28) 4 dX5_countKept_28 (by decide) ?_
        refine G_perm (lv' := [(0, .ref (ad (8, t, 0, 0))), (1, .int (zI v24)), (2, .int (zI v25))]) [2, 1, 0] rfl ?_
        exact ih4 v24 v25  ⟨by omega, by rw [e24, e25, ← hi4.2, sm_step (a := p) (n := P 1 t 0) (by omega)]; show m + ztk P S t p + _ = _; omega⟩ (by omega)
  refine G_perm (lv' := [(0, .ref (ad (8, t, 0, 0))), (1, .int (zI v1)), (2, .int (zI v3))]) [2, 1, 0] rfl ?_
  exact L4 _ v1 v3  ⟨by omega, by subst e1 e3; exact Int.zero_add _⟩ (Nat.lt_succ_self _)
set_option maxHeartbeats 4000000 in
set_option maxRecDepth 100000 in
theorem c_X5_settlePending {l : Launch} {Δ : zDl} {ad : zK → Nat} {P : zP} {S : zS} {X : zMem} {t x y : Int} (hP : zWP P) (ht : 0 ≤ t ∧ t < P 0 0 0) (hW : zWS P S) (hx : zR x) (hy : zR y) : zMn l Δ yX5_settlePending cX5_settlePending 5 (some .int) 6 0 0 [.ref (ad (8, t, 0, 0)), .int (zI x), .int (zI y)] ad (mm Δ ad P S X) (zD (some (.int (zI ((lp (zts P t x y) 0 (P 1 t 0) (S, 0)).2)))) ad (mm Δ ad P ((lp (zts P t x y) 0 (P 1 t 0) (S, 0)).1) X)) := by
  refine zMn_of (by decide) (Nat.le_of_ble_eq_true rfl) (fun Γ hl hΔ hF => ?_)
  subst hl hΔ
  show G Γ _ _ _ RX5 _ _ _ _ _ [(0, .ref (ad (8, t, 0, 0))), (1, .int (zI x)), (2, .int (zI y))] []
  have hN := hP.t ht
  have hS := hW.R
  have hb := hW.b
  refine G_iconst (pc := 0) dX5_settlePending_0 ?_
  refine G_istore_ne (pc := 1) 3 (fun w => [(3, .int (zI w)), (0, .ref (ad (8, t, 0, 0))), (1, .int (zI x)), (2, .int (zI y))]) dX5_settlePending_1 rfl (by decide) (fun _ => rfl) (fun v1 e1 => ?_)
  refine G_iconst (pc := 2) dX5_settlePending_2 ?_
  refine G_istore_e (pc := 3) (fun w => [(4, .int (zI w)), (3, .int (zI v1)), (0, .ref (ad (8, t, 0, 0))), (1, .int (zI x)), (2, .int (zI y))]) dX5_settlePending_3 (by decide) (fun _ => rfl) (fun v3 e3 => ?_)
  have L5 : ∀ (n : Nat) (m : Int) (p : Int) (T : zS), ((0 ≤ p ∧ p ≤ P 1 t 0) ∧ lp (zts P t x y) p (P 1 t 0) (T, m) = lp (zts P t x y) 0 (P 1 t 0) (S, 0) ∧ zWS P T) → (P 1 t 0 - p).toNat < n → G Γ (zRm 6 0 0) cX5_settlePending 5 RX5 ad (mm (z_d Γ) ad P T X) 0 0 5 [(0, .ref (ad (8, t, 0, 0))), (1, .int (zI x)), (2, .int (zI y)), (3, .int (zI m)), (4, .int (zI p))] [] := by
    intro n
    induction n with
    | zero => intro m p T _ hn; omega
    | succ n ih5 =>
      intro m p T hi5 hn5
      obtain ⟨hp0, hq, hTW⟩ := hi5
      have hT := hTW.R
      refine G_iload (pc := 5) 4 dX5_settlePending_5 rfl ?_
      refine G_aload_n (pc := 7) 0 0 dX5_settlePending_7 rfl rfl ?_
      refine G_getf (pc := 8) fl_X5_25 dX5_settlePending_8 (mg_8 (by first | assumption | omega | exact ⟨by omega, by omega⟩ | exact hS _ _ | exact hT _ _)) rfl ?_
      refine G_alen (pc := 11) (t := 2) rfl dX5_settlePending_11 (mg_9 (by first | assumption | omega | exact ⟨by omega, by omega⟩ | exact hS _ _ | exact hT _ _)) ?_
      refine G_icmp_ge (pc := 12) 36 dX5_settlePending_12 (by decide) (by first | exact hS _ _ | exact hT _ _ | exact ⟨by omega, by omega⟩ | assumption) (by first | exact hS _ _ | exact hT _ _ | exact ⟨by omega, by omega⟩ | assumption) (fun c12 => ?_) (fun c12 => ?_)
      · refine G_iload_n (pc := 36) 3 3 dX5_settlePending_36 rfl rfl ?_
        exact G_iret_m (pc := 37) hF dX5_settlePending_37 ⟨Nat.le_of_ble_eq_true rfl, Nat.le_of_ble_eq_true rfl⟩ (by rw [← hq, lp_end (by omega)]) (by rw [← hq, lp_end (by omega)])
      · refine G_iload_n (pc := 15) 3 3 dX5_settlePending_15 rfl rfl ?_
        refine G_aload_n (pc := 16) 0 0 dX5_settlePending_16 rfl rfl ?_
        refine G_getf (pc := 17) fl_X5_25 dX5_settlePending_17 (mg_8 (by first | assumption | omega | exact ⟨by omega, by omega⟩ | exact hS _ _ | exact hT _ _)) rfl ?_
        refine G_iload (pc := 20) 4 dX5_settlePending_20 rfl ?_
        refine G_aald (pc := 22) (t := 2) rfl dX5_settlePending_22 (mg_9 (by first | assumption | omega | exact ⟨by omega, by omega⟩ | exact hS _ _ | exact hT _ _)) ⟨by omega, by omega, by omega, by omega⟩ rfl ?_
        refine G_iload_n (pc := 23) 1 1 dX5_settlePending_23 rfl rfl ?_
        refine G_iload_n (pc := 24) 2 2 dX5_settlePending_24 rfl rfl ?_
        refine G_callVd (pc := 25) gk_X5_34 dX5_settlePending_25 (mg_11 (by first | assumption | omega | exact ⟨by omega, by omega⟩ | exact hS _ _ | exact hT _ _)) rfl (c_X3_settlePending (by first | assumption | omega | exact ⟨by omega, by omega⟩ | exact hS _ _ | exact hT _ _) (by first | assumption | omega | exact ⟨by omega, by omega⟩ | exact hS _ _ | exact hT _ _) (by first | assumption | omega | exact ⟨by omega, by omega⟩ | exact hS _ _ | exact hT _ _) (by first | assumption | omega | exact ⟨by omega, by omega⟩ | exact hS _ _ | exact hT _ _) (by first | assumption | omega | exact ⟨by omega, by omega⟩ | exact hS _ _ | exact hT _ _) (by first | assumption | omega | exact ⟨by omega, by omega⟩ | exact hS _ _ | exact hT _ _)) rfl rfl (Nat.le_of_ble_eq_true rfl) ⟨⟨Nat.le_of_ble_eq_true rfl, Nat.le_of_ble_eq_true rfl⟩, Nat.le_of_ble_eq_true rfl, Nat.le_of_ble_eq_true rfl⟩ ?_
        refine G_name (fun S1_25 hS1_25 => ?_)
        refine G_iadd (pc := 28) dX5_settlePending_28 ?_
        refine G_istore_ne (pc := 29) 3 (fun w => [(3, .int (zI w)), (0, .ref (ad (8, t, 0, 0))), (1, .int (zI x)), (2, .int (zI y)), (4, .int (zI p))]) dX5_settlePending_29 rfl (by decide) (fun _ => rfl) (fun v29 e29 => ?_)
        refine G_iinc_e (pc := 30) 4 (fun w => [(4, .int (zI w)), (3, .int (zI v29)), (0, .ref (ad (8, t, 0, 0))), (1, .int (zI x)), (2, .int (zI y))]) dX5_settlePending_30 rfl (by decide) (fun _ => rfl) (fun v30 e30 => ?_)
        refine G_goto (pc := 33) 5 dX5_settlePending_33 (by decide) ?_
        refine G_perm (lv' := [(0, .ref (ad (8, t, 0, 0))), (1, .int (zI x)), (2, .int (zI y)), (3, .int (zI v29)), (4, .int (zI v30))]) [2, 3, 4, 1, 0] rfl ?_
        exact ih5 v29 v30 S1_25 ⟨by omega, by rw [e30, ← hq, lp_step (a := p) (n := P 1 t 0) (by omega)]; show _ = lp _ _ _ (zts P t x y p (T, m)); rw [show zts P t x y p (T, m) = (S1_25, v29) by rw [hS1_25, e29]; rfl], by rw [hS1_25]; exact zsp_W hy (by have := hP.m ht (p := p) ⟨by omega, by omega⟩; omega) hTW⟩ (by omega)
  refine G_perm (lv' := [(0, .ref (ad (8, t, 0, 0))), (1, .int (zI x)), (2, .int (zI y)), (3, .int (zI v1)), (4, .int (zI v3))]) [2, 3, 4, 1, 0] rfl ?_
  exact L5 _ v1 v3 S ⟨by omega, by subst e1 e3; rfl, hW⟩ (Nat.lt_succ_self _)
set_option maxHeartbeats 4000000 in
set_option maxRecDepth 100000 in
theorem c_X5_dropOutdated {l : Launch} {Δ : zDl} {ad : zK → Nat} {P : zP} {S : zS} {X : zMem} {t : Int} (hP : zWP P) (ht : 0 ≤ t ∧ t < P 0 0 0) (hW : zWS P S) : zMn l Δ yX5_dropOutdated cX5_dropOutdated 3 (some .int) 7 0 0 [.ref (ad (8, t, 0, 0))] ad (mm Δ ad P S X) (zD (some (.int (zI ((lp (ztr P t) 0 (P 1 t 0) (S, 0)).2)))) ad (mm Δ ad P ((lp (ztr P t) 0 (P 1 t 0) (S, 0)).1) X)) := by
  refine zMn_of (by decide) (Nat.le_of_ble_eq_true rfl) (fun Γ hl hΔ hF => ?_)
  subst hl hΔ
  show G Γ _ _ _ RX5 _ _ _ _ _ [(0, .ref (ad (8, t, 0, 0)))] []
  have hN := hP.t ht
  have hS := hW.R
  have hb := hW.b
  refine G_iconst (pc := 0) dX5_dropOutdated_0 ?_
  refine G_istore_ne (pc := 1) 1 (fun w => [(1, .int (zI w)), (0, .ref (ad (8, t, 0, 0)))]) dX5_dropOutdated_1 rfl (by decide) (fun _ => rfl) (fun v1 e1 => ?_)
  refine G_iconst (pc := 2) dX5_dropOutdated_2 ?_
  refine G_istore_ne (pc := 3) 2 (fun w => [(2, .int (zI w)), (1, .int (zI v1)), (0, .ref (ad (8, t, 0, 0)))]) dX5_dropOutdated_3 rfl (by decide) (fun _ => rfl) (fun v3 e3 => ?_)
  have L4 : ∀ (n : Nat) (m : Int) (p : Int) (T : zS), ((0 ≤ p ∧ p ≤ P 1 t 0) ∧ lp (ztr P t) p (P 1 t 0) (T, m) = lp (ztr P t) 0 (P 1 t 0) (S, 0) ∧ zWS P T) → (P 1 t 0 - p).toNat < n → G Γ (zRm 7 0 0) cX5_dropOutdated 3 RX5 ad (mm (z_d Γ) ad P T X) 0 0 4 [(0, .ref (ad (8, t, 0, 0))), (1, .int (zI m)), (2, .int (zI p))] [] := by
    intro n
    induction n with
    | zero => intro m p T _ hn; omega
    | succ n ih4 =>
      intro m p T hi4 hn4
      obtain ⟨hp0, hq, hTW⟩ := hi4
      have hT := hTW.R
      refine G_iload_n (pc := 4) 2 2 dX5_dropOutdated_4 rfl rfl ?_
      refine G_aload_n (pc := 5) 0 0 dX5_dropOutdated_5 rfl rfl ?_
      refine G_getf (pc := 6) fl_X5_25 dX5_dropOutdated_6 (mg_8 (by first | assumption | omega | exact ⟨by omega, by omega⟩ | exact hS _ _ | exact hT _ _)) rfl ?_
      refine G_alen (pc := 9) (t := 2) rfl dX5_dropOutdated_9 (mg_9 (by first | assumption | omega | exact ⟨by omega, by omega⟩ | exact hS _ _ | exact hT _ _)) ?_
      refine G_icmp_ge (pc := 10) 31 dX5_dropOutdated_10 (by decide) (by first | exact hS _ _ | exact hT _ _ | exact ⟨by omega, by omega⟩ | assumption) (by first | exact hS _ _ | exact hT _ _ | exact ⟨by omega, by omega⟩ | assumption) (fun c10 => ?_) (fun c10 => ?_)
      · refine G_iload_n (pc := 31) 1 1 dX5_dropOutdated_31 rfl rfl ?_
        exact G_iret_m (pc := 32) hF dX5_dropOutdated_32 ⟨Nat.le_of_ble_eq_true rfl, Nat.le_of_ble_eq_true rfl⟩ (by rw [← hq, lp_end (by omega)]) (by rw [← hq, lp_end (by omega)])
      · refine G_iload_n (pc := 13) 1 1 dX5_dropOutdated_13 rfl rfl ?_
        refine G_aload_n (pc := 14) 0 0 dX5_dropOutdated_14 rfl rfl ?_
        refine G_getf (pc := 15) fl_X5_25 dX5_dropOutdated_15 (mg_8 (by first | assumption | omega | exact ⟨by omega, by omega⟩ | exact hS _ _ | exact hT _ _)) rfl ?_
        refine G_iload_n (pc := 18) 2 2 dX5_dropOutdated_18 rfl rfl ?_
        refine G_aald (pc := 19) (t := 2) rfl dX5_dropOutdated_19 (mg_9 (by first | assumption | omega | exact ⟨by omega, by omega⟩ | exact hS _ _ | exact hT _ _)) ⟨by omega, by omega, by omega, by omega⟩ rfl ?_
        refine G_callVd (pc := 20) gk_X5_42 dX5_dropOutdated_20 (mg_11 (by first | assumption | omega | exact ⟨by omega, by omega⟩ | exact hS _ _ | exact hT _ _)) rfl (c_X3_dropOutdated (by first | assumption | omega | exact ⟨by omega, by omega⟩ | exact hS _ _ | exact hT _ _) (by first | assumption | omega | exact ⟨by omega, by omega⟩ | exact hS _ _ | exact hT _ _) (by first | assumption | omega | exact ⟨by omega, by omega⟩ | exact hS _ _ | exact hT _ _) (by first | assumption | omega | exact ⟨by omega, by omega⟩ | exact hS _ _ | exact hT _ _)) rfl rfl (Nat.le_of_ble_eq_true rfl) ⟨⟨Nat.le_of_ble_eq_true rfl, Nat.le_of_ble_eq_true rfl⟩, Nat.le_of_ble_eq_true rfl, Nat.le_of_ble_eq_true rfl⟩ ?_
        refine G_name (fun S1_20 hS1_20 => ?_)
        refine G_iadd (pc := 23) dX5_dropOutdated_23 ?_
        refine G_istore_ne (pc := 24) 1 (fun w => [(1, .int (zI w)), (0, .ref (ad (8, t, 0, 0))), (2, .int (zI p))]) dX5_dropOutdated_24 rfl (by decide) (fun _ => rfl) (fun v24 e24 => ?_)
        refine G_iinc_e (pc := 25) 2 (fun w => [(2, .int (zI w)), (1, .int (zI v24)), (0, .ref (ad (8, t, 0, 0)))]) dX5_dropOutdated_25 rfl (by decide) (fun _ => rfl) (fun v25 e25 => ?_)
        refine G_goto (pc := 28) 4 dX5_dropOutdated_28 (by decide) ?_
        refine G_perm (lv' := [(0, .ref (ad (8, t, 0, 0))), (1, .int (zI v24)), (2, .int (zI v25))]) [2, 1, 0] rfl ?_
        exact ih4 v24 v25 S1_20 ⟨by omega, by rw [e25, ← hq, lp_step (a := p) (n := P 1 t 0) (by omega)]; rw [show ztr P t p (T, m) = (S1_20, v24) by rw [hS1_20, e24]; rfl], by rw [hS1_20]; exact zdr_W (fi_le (by have := hP.m ht (p := p) ⟨by omega, by omega⟩; omega)).1 hTW⟩ (by omega)
  refine G_perm (lv' := [(0, .ref (ad (8, t, 0, 0))), (1, .int (zI v1)), (2, .int (zI v3))]) [2, 1, 0] rfl ?_
  exact L4 _ v1 v3 S ⟨by omega, by subst e1 e3; rfl, hW⟩ (Nat.lt_succ_self _)
set_option maxHeartbeats 4000000 in
set_option maxRecDepth 100000 in
theorem c_X5_dropOld {l : Launch} {Δ : zDl} {ad : zK → Nat} {P : zP} {S : zS} {X : zMem} {t x : Int} (hP : zWP P) (ht : 0 ≤ t ∧ t < P 0 0 0) (hW : zWS P S) (hx : 0 ≤ x ∧ x ≤ 9999) : zMn l Δ yX5_dropOld cX5_dropOld 3 none 6 0 0 [.ref (ad (8, t, 0, 0)), .int (zI x)] ad (mm Δ ad P S X) (zD none ad (mm Δ ad P ((if S (8, t, 0, 0) 3 = 0 then S else lp (ztd P t x (S (8, t, 0, 0) 3)) 0 (P 1 t 0) S)) X)) := by
  refine zMn_of (by decide) (Nat.le_of_ble_eq_true rfl) (fun Γ hl hΔ hF => ?_)
  subst hl hΔ
  show G Γ _ _ _ RX5 _ _ _ _ _ [(0, .ref (ad (8, t, 0, 0))), (1, .int (zI x))] []
  have hN := hP.t ht
  have hS := hW.R
  have hb := hW.b
  refine G_aload_n (pc := 0) 0 0 dX5_dropOld_0 rfl rfl ?_
  refine G_getf (pc := 1) fl_X5_15 dX5_dropOld_1 (mg_8 (by first | assumption | omega | exact ⟨by omega, by omega⟩ | exact hS _ _ | exact hT _ _)) rfl ?_
  refine G_if_ne (pc := 4) 8 dX5_dropOld_4 (by decide) (by first | exact hS _ _ | exact hT _ _ | exact ⟨by omega, by omega⟩ | assumption) (fun c4 => ?_) (fun c4 => ?_)
  · refine G_iconst (pc := 8) dX5_dropOld_8 ?_
    refine G_istore_ne (pc := 9) 2 (fun w => [(2, .int (zI w)), (0, .ref (ad (8, t, 0, 0))), (1, .int (zI x))]) dX5_dropOld_9 rfl (by decide) (fun _ => rfl) (fun v9 e9 => ?_)
    have L10 : ∀ (n : Nat) (p : Int) (T : zS), ((0 ≤ p ∧ p ≤ P 1 t 0) ∧ lp (ztd P t x (S (8, t, 0, 0) 3)) p (P 1 t 0) T = lp (ztd P t x (S (8, t, 0, 0) 3)) 0 (P 1 t 0) S ∧ zWS P T ∧ T (8, t, 0, 0) 3 = S (8, t, 0, 0) 3) → (P 1 t 0 - p).toNat < n → G Γ (zRm 6 0 0) cX5_dropOld 3 RX5 ad (mm (z_d Γ) ad P T X) 0 0 10 [(0, .ref (ad (8, t, 0, 0))), (1, .int (zI x)), (2, .int (zI p))] [] := by
      intro n
      induction n with
      | zero => intro p T _ hn; omega
      | succ n ih10 =>
        intro p T hi10 hn10
        obtain ⟨hp0, hq, hTW, hke⟩ := hi10
        have hT := hTW.R
        have hbT := hTW.b
        refine G_iload_n (pc := 10) 2 2 dX5_dropOld_10 rfl rfl ?_
        refine G_aload_n (pc := 11) 0 0 dX5_dropOld_11 rfl rfl ?_
        refine G_getf (pc := 12) fl_X5_25 dX5_dropOld_12 (mg_8 (by first | assumption | omega | exact ⟨by omega, by omega⟩ | exact hS _ _ | exact hT _ _)) rfl ?_
        refine G_alen (pc := 15) (t := 2) rfl dX5_dropOld_15 (mg_9 (by first | assumption | omega | exact ⟨by omega, by omega⟩ | exact hS _ _ | exact hT _ _)) ?_
        refine G_icmp_ge (pc := 16) 39 dX5_dropOld_16 (by decide) (by first | exact hS _ _ | exact hT _ _ | exact ⟨by omega, by omega⟩ | assumption) (by first | exact hS _ _ | exact hT _ _ | exact ⟨by omega, by omega⟩ | assumption) (fun c16 => ?_) (fun c16 => ?_)
        · exact G_vret_d (pc := 39) hF dX5_dropOld_39 ⟨Nat.le_of_ble_eq_true rfl, Nat.le_of_ble_eq_true rfl⟩ (by rw [if_neg c4, ← hq, lp_end (by omega)])
        · refine G_aload_n (pc := 19) 0 0 dX5_dropOld_19 rfl rfl ?_
          refine G_getf (pc := 20) fl_X5_25 dX5_dropOld_20 (mg_8 (by first | assumption | omega | exact ⟨by omega, by omega⟩ | exact hS _ _ | exact hT _ _)) rfl ?_
          refine G_iload_n (pc := 23) 2 2 dX5_dropOld_23 rfl rfl ?_
          refine G_aald (pc := 24) (t := 2) rfl dX5_dropOld_24 (mg_9 (by first | assumption | omega | exact ⟨by omega, by omega⟩ | exact hS _ _ | exact hT _ _)) ⟨by omega, by omega, by omega, by omega⟩ rfl ?_
          refine G_iload_n (pc := 25) 1 1 dX5_dropOld_25 rfl rfl ?_
          refine G_aload_n (pc := 26) 0 0 dX5_dropOld_26 rfl rfl ?_
          refine G_getf (pc := 27) fl_X5_15 dX5_dropOld_27 (mg_8 (by first | assumption | omega | exact ⟨by omega, by omega⟩ | exact hS _ _ | exact hT _ _)) rfl ?_
          have hsT := hTW.s ht (p := p) ⟨by omega, by omega⟩
          refine G_callVv (pc := 30) gk_X5_38 dX5_dropOld_30 (mg_11 (by first | assumption | omega | exact ⟨by omega, by omega⟩ | exact hS _ _ | exact hT _ _)) rfl (c_X3_dropOld (by first | assumption | omega | exact ⟨by omega, by omega⟩ | exact hS _ _ | exact hT _ _) (by first | assumption | omega | exact ⟨by omega, by omega⟩ | exact hS _ _ | exact hT _ _) (by first | assumption | omega | exact ⟨by omega, by omega⟩ | exact hS _ _ | exact hT _ _) (by first | assumption | omega | exact ⟨by omega, by omega⟩ | exact hS _ _ | exact hT _ _) (by first | assumption | omega | exact ⟨by omega, by omega⟩ | exact hS _ _ | exact hT _ _) (by first | assumption | omega | exact ⟨by omega, by omega⟩ | exact hS _ _ | exact hT _ _) (by first | assumption | omega | exact ⟨by omega, by omega⟩ | exact hS _ _ | exact hT _ _) (by first | assumption | omega | exact ⟨by omega, by omega⟩ | exact hS _ _ | exact hT _ _)) rfl rfl (Nat.le_of_ble_eq_true rfl) ⟨⟨Nat.le_of_ble_eq_true rfl, Nat.le_of_ble_eq_true rfl⟩, Nat.le_of_ble_eq_true rfl, Nat.le_of_ble_eq_true rfl⟩ ?_
          refine G_name (fun S1_30 hS1_30 => ?_)
          refine G_iinc_e (pc := 33) 2 (fun w => [(2, .int (zI w)), (0, .ref (ad (8, t, 0, 0))), (1, .int (zI x))]) dX5_dropOld_33 rfl (by decide) (fun _ => rfl) (fun v33 e33 => ?_)
          refine G_goto (pc := 36) 10 dX5_dropOld_36 (by decide) ?_
          refine G_perm (lv' := [(0, .ref (ad (8, t, 0, 0))), (1, .int (zI x)), (2, .int (zI v33))]) [1, 2, 0] rfl ?_
          exact ih10 v33 S1_30 ⟨by omega, by rw [e33, ← hq, lp_step (a := p) (n := P 1 t 0) (by omega), hS1_30, hke]; rfl, by rw [hS1_30]; exact zdo_W hP ht ⟨by omega, by omega⟩ _ _ hTW, by rw [hS1_30, zdo_8]; exact hke⟩ (by omega)
    refine G_perm (lv' := [(0, .ref (ad (8, t, 0, 0))), (1, .int (zI x)), (2, .int (zI v9))]) [1, 2, 0] rfl ?_
    exact L10 _ v9 S ⟨by omega, by rw [e9], hW, rfl⟩ (Nat.lt_succ_self _)
  · exact G_vret_d (pc := 7) hF dX5_dropOld_7 ⟨Nat.le_of_ble_eq_true rfl, Nat.le_of_ble_eq_true rfl⟩ (by rw [if_pos c4])
set_option maxHeartbeats 4000000 in
set_option maxRecDepth 100000 in
theorem c_X5_partitionFor {l : Launch} {Δ : zDl} {ad : zK → Nat} {P : zP} {S : zS} {X : zMem} {t x : Int} (hP : zWP P) (ht : 0 ≤ t ∧ t < P 0 0 0) (hx : -1 ≤ x ∧ x ≤ 9) : zMn l Δ yX5_partitionFor cX5_partitionFor 4 (some (.object "TailraceBroker$Partition")) 3 0 0 [.ref (ad (8, t, 0, 0)), .int (zI x)] ad (mm Δ ad P S X) (zD (some (.ref (ad (11, t, zpa P t x, 0)))) ad (mm Δ ad P S X)) := by
  refine zMn_of (by decide) (Nat.le_of_ble_eq_true rfl) (fun Γ hl hΔ hF => ?_)
  subst hl hΔ
  show G Γ _ _ _ RX5 _ _ _ _ _ [(0, .ref (ad (8, t, 0, 0))), (1, .int (zI x))] []
  have hN := hP.t ht
  refine G_iload_n (pc := 0) 1 1 dX5_partitionFor_0 rfl rfl ?_
  refine G_iconst (pc := 1) dX5_partitionFor_1 ?_
  refine G_icmp_eq (pc := 2) 18 dX5_partitionFor_2 (by decide) (by first | exact hS _ _ | exact hT _ _ | exact ⟨by omega, by omega⟩ | assumption) (by first | exact hS _ _ | exact hT _ _ | exact ⟨by omega, by omega⟩ | assumption) (fun c2 => ?_) (fun c2 => ?_)
  · refine G_aload_n (pc := 18) 0 0 dX5_partitionFor_18 rfl rfl ?_
    refine G_getf (pc := 19) fl_X5_25 dX5_partitionFor_19 (mg_8 (by first | assumption | omega | exact ⟨by omega, by omega⟩ | exact hS _ _ | exact hT _ _)) rfl ?_
    refine G_iconst (pc := 22) dX5_partitionFor_22 ?_
    refine G_aald (pc := 23) (t := 2) rfl dX5_partitionFor_23 (mg_9 (by first | assumption | omega | exact ⟨by omega, by omega⟩ | exact hS _ _ | exact hT _ _)) ⟨by omega, by omega, by omega, by omega⟩ rfl ?_
    refine G_astore_n (pc := 24) 2 [(2, .ref (ad (11, t, 0, 0))), (0, .ref (ad (8, t, 0, 0))), (1, .int (zI x))] dX5_partitionFor_24 rfl (by decide) rfl ?_
    refine G_iconst (pc := 25) dX5_partitionFor_25 ?_
    refine G_istore_ne (pc := 26) 3 (fun w => [(3, .int (zI w)), (2, .ref (ad (11, t, 0, 0))), (0, .ref (ad (8, t, 0, 0))), (1, .int (zI x))]) dX5_partitionFor_26 rfl (by decide) (fun _ => rfl) (fun v26 e26 => ?_)
    have L27 : ∀ (n : Nat) (k : Int) (q : Int), (((1 ≤ k ∧ k ≤ P 1 t 0) ∧ (0 ≤ q ∧ q < P 1 t 0)) ∧ lp (zpf P t) k (P 1 t 0) q = lp (zpf P t) 1 (P 1 t 0) 0) → (P 1 t 0 - k).toNat < n → G Γ (zRm 3 0 0) cX5_partitionFor 4 RX5 ad (mm (z_d Γ) ad P S X) 0 0 27 [(0, .ref (ad (8, t, 0, 0))), (1, .int (zI x)), (2, .ref (ad (11, t, q, 0))), (3, .int (zI k))] [] := by
      intro n
      induction n with
      | zero => intro k q _ hn; omega
      | succ n ih27 =>
        intro k q hi27 hn27
        have hMk := fun h => hP.m ht (p := k) h
        have hMq := hP.m ht hi27.1.2
        refine G_iload_n (pc := 27) 3 3 dX5_partitionFor_27 rfl rfl ?_
        refine G_aload_n (pc := 28) 0 0 dX5_partitionFor_28 rfl rfl ?_
        refine G_getf (pc := 29) fl_X5_25 dX5_partitionFor_29 (mg_8 (by first | assumption | omega | exact ⟨by omega, by omega⟩ | exact hS _ _ | exact hT _ _)) rfl ?_
        refine G_alen (pc := 32) (t := 2) rfl dX5_partitionFor_32 (mg_9 (by first | assumption | omega | exact ⟨by omega, by omega⟩ | exact hS _ _ | exact hT _ _)) ?_
        refine G_icmp_ge (pc := 33) 65 dX5_partitionFor_33 (by decide) (by first | exact hS _ _ | exact hT _ _ | exact ⟨by omega, by omega⟩ | assumption) (by first | exact hS _ _ | exact hT _ _ | exact ⟨by omega, by omega⟩ | assumption) (fun c33 => ?_) (fun c33 => ?_)
        · refine G_aload_n (pc := 65) 2 2 dX5_partitionFor_65 rfl rfl ?_
          have hk3 : zpa P t x = q := by rw [show zpa P t x = lp (zpf P t) 1 (P 1 t 0) 0 from if_pos c2, ← hi27.2, lp_end (by omega)]
          rw [hk3] at hF
          exact G_aret (pc := 66) hF (Or.inl ⟨_, rfl⟩) dX5_partitionFor_66 ⟨Nat.le_of_ble_eq_true rfl, Nat.le_of_ble_eq_true rfl⟩ ⟨rfl, rfl, rfl⟩
        · refine G_aload_n (pc := 36) 0 0 dX5_partitionFor_36 rfl rfl ?_
          refine G_getf (pc := 37) fl_X5_25 dX5_partitionFor_37 (mg_8 (by first | assumption | omega | exact ⟨by omega, by omega⟩ | exact hS _ _ | exact hT _ _)) rfl ?_
          refine G_iload_n (pc := 40) 3 3 dX5_partitionFor_40 rfl rfl ?_
          refine G_aald (pc := 41) (t := 2) rfl dX5_partitionFor_41 (mg_9 (by first | assumption | omega | exact ⟨by omega, by omega⟩ | exact hS _ _ | exact hT _ _)) ⟨by omega, by omega, by omega, by omega⟩ rfl ?_
          refine G_callVd (pc := 42) gk_X5_30 dX5_partitionFor_42 (mg_11 (by first | assumption | omega | exact ⟨by omega, by omega⟩ | exact hS _ _ | exact hT _ _)) rfl (c_X3_size (by first | assumption | omega | exact ⟨by omega, by omega⟩ | exact hS _ _ | exact hT _ _) (by first | assumption | omega | exact ⟨by omega, by omega⟩ | exact hS _ _ | exact hT _ _)) rfl rfl (Nat.le_of_ble_eq_true rfl) ⟨⟨Nat.le_of_ble_eq_true rfl, Nat.le_of_ble_eq_true rfl⟩, Nat.le_of_ble_eq_true rfl, Nat.le_of_ble_eq_true rfl⟩ ?_
          refine G_aload_n (pc := 45) 2 2 dX5_partitionFor_45 rfl rfl ?_
          refine G_callVd (pc := 46) gk_X5_30 dX5_partitionFor_46 (mg_11 (by first | assumption | omega | exact ⟨by omega, by omega⟩ | exact hS _ _ | exact hT _ _)) rfl (c_X3_size (by first | assumption | omega | exact ⟨by omega, by omega⟩ | exact hS _ _ | exact hT _ _) (by first | assumption | omega | exact ⟨by omega, by omega⟩ | exact hS _ _ | exact hT _ _)) rfl rfl (Nat.le_of_ble_eq_true rfl) ⟨⟨Nat.le_of_ble_eq_true rfl, Nat.le_of_ble_eq_true rfl⟩, Nat.le_of_ble_eq_true rfl, Nat.le_of_ble_eq_true rfl⟩ ?_
          refine G_icmp_ge (pc := 49) 59 dX5_partitionFor_49 (by decide) (by first | exact hS _ _ | exact hT _ _ | exact ⟨by omega, by omega⟩ | assumption) (by first | exact hS _ _ | exact hT _ _ | exact ⟨by omega, by omega⟩ | assumption) (fun c49 => ?_) (fun c49 => ?_)
          · refine G_iinc_e (pc := 59) 3 (fun w => [(3, .int (zI w)), (0, .ref (ad (8, t, 0, 0))), (1, .int (zI x)), (2, .ref (ad (11, t, q, 0)))]) dX5_partitionFor_59 rfl (by decide) (fun _ => rfl) (fun v59 e59 => ?_)
            refine G_goto (pc := 62) 27 dX5_partitionFor_62 (by decide) ?_
            refine G_perm (lv' := [(0, .ref (ad (8, t, 0, 0))), (1, .int (zI x)), (2, .ref (ad (11, t, q, 0))), (3, .int (zI v59))]) [1, 2, 3, 0] rfl ?_
            exact ih27 v59 q  ⟨by omega, by rw [e59, ← hi27.2, lp_step (a := k) (n := P 1 t 0) (by omega)]; first | rw [show zpf P t k q = k from if_pos (by omega)] | rw [show zpf P t k q = q from if_neg (by omega)]⟩ (by omega)
          · refine G_aload_n (pc := 52) 0 0 dX5_partitionFor_52 rfl rfl ?_
            refine G_getf (pc := 53) fl_X5_25 dX5_partitionFor_53 (mg_8 (by first | assumption | omega | exact ⟨by omega, by omega⟩ | exact hS _ _ | exact hT _ _)) rfl ?_
            refine G_iload_n (pc := 56) 3 3 dX5_partitionFor_56 rfl rfl ?_
            refine G_aald (pc := 57) (t := 2) rfl dX5_partitionFor_57 (mg_9 (by first | assumption | omega | exact ⟨by omega, by omega⟩ | exact hS _ _ | exact hT _ _)) ⟨by omega, by omega, by omega, by omega⟩ rfl ?_
            refine G_astore_n (pc := 58) 2 [(2, .ref (ad (11, t, k, 0))), (0, .ref (ad (8, t, 0, 0))), (1, .int (zI x)), (3, .int (zI k))] dX5_partitionFor_58 rfl (by decide) rfl ?_
            refine G_iinc_e (pc := 59) 3 (fun w => [(3, .int (zI w)), (2, .ref (ad (11, t, k, 0))), (0, .ref (ad (8, t, 0, 0))), (1, .int (zI x))]) dX5_partitionFor_59 rfl (by decide) (fun _ => rfl) (fun v59 e59 => ?_)
            refine G_goto (pc := 62) 27 dX5_partitionFor_62 (by decide) ?_
            refine G_perm (lv' := [(0, .ref (ad (8, t, 0, 0))), (1, .int (zI x)), (2, .ref (ad (11, t, k, 0))), (3, .int (zI v59))]) [2, 3, 1, 0] rfl ?_
            exact ih27 v59 k  ⟨by omega, by rw [e59, ← hi27.2, lp_step (a := k) (n := P 1 t 0) (by omega)]; first | rw [show zpf P t k q = k from if_pos (by omega)] | rw [show zpf P t k q = q from if_neg (by omega)]⟩ (by omega)
    refine G_perm (lv' := [(0, .ref (ad (8, t, 0, 0))), (1, .int (zI x)), (2, .ref (ad (11, t, 0, 0))), (3, .int (zI v26))]) [2, 3, 1, 0] rfl ?_
    exact L27 _ v26 0  ⟨by omega, by rw [e26]⟩ (Nat.lt_succ_self _)
  · refine G_aload_n (pc := 5) 0 0 dX5_partitionFor_5 rfl rfl ?_
    refine G_getf (pc := 6) fl_X5_25 dX5_partitionFor_6 (mg_8 (by first | assumption | omega | exact ⟨by omega, by omega⟩ | exact hS _ _ | exact hT _ _)) rfl ?_
    refine G_iload_n (pc := 9) 1 1 dX5_partitionFor_9 rfl rfl ?_
    refine G_aload_n (pc := 10) 0 0 dX5_partitionFor_10 rfl rfl ?_
    refine G_getf (pc := 11) fl_X5_25 dX5_partitionFor_11 (mg_8 (by first | assumption | omega | exact ⟨by omega, by omega⟩ | exact hS _ _ | exact hT _ _)) rfl ?_
    refine G_alen (pc := 14) (t := 2) rfl dX5_partitionFor_14 (mg_9 (by first | assumption | omega | exact ⟨by omega, by omega⟩ | exact hS _ _ | exact hT _ _)) ?_
    have hc : ((P 1 t 0).toNat : Int) = P 1 t 0 := Int.toNat_of_nonneg (by omega)
    have hk1 : 0 ≤ x % ((P 1 t 0).toNat : Int) ∧ x % ((P 1 t 0).toNat : Int) < P 1 t 0 := by rw [hc]; exact ⟨Int.emod_nonneg _ (by omega), Int.emod_lt_of_pos _ (by omega)⟩
    have hk2 : zpa P t x = x % ((P 1 t 0).toNat : Int) := by rw [hc]; exact if_neg c2
    rw [hk2] at hF
    refine G_irem (pc := 15) dX5_partitionFor_15 ⟨by omega, by omega, by omega⟩ ⟨by omega, by omega, by omega⟩ ?_
    refine G_aald (pc := 16) (t := 2) rfl dX5_partitionFor_16 (mg_9 (by first | assumption | omega | exact ⟨by omega, by omega⟩ | exact hS _ _ | exact hT _ _)) ⟨by omega, by omega, by omega, by omega⟩ rfl ?_
    exact G_aret (pc := 17) hF (Or.inl ⟨_, rfl⟩) dX5_partitionFor_17 ⟨Nat.le_of_ble_eq_true rfl, Nat.le_of_ble_eq_true rfl⟩ ⟨rfl, rfl, rfl⟩
