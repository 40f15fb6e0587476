set_option maxHeartbeats 4000000 in
set_option maxRecDepth 100000 in
theorem c_X6_keepUpGroups {l : Launch} {Δ : zDl} {ad : zK → Nat} {P : zP} {S : zS} {X : zMem}  (hP : zWP P) (hW : zWS P S) : zMn l Δ yX6_keepUpGroups cX6_keepUpGroups 2 none 8 0 0 [.ref (ad (0, 0, 0, 0))] ad (mm Δ ad P S X) (zD none ad (mm Δ ad P (zkA P S) X)) := by
  refine zMn_of (by decide) (Nat.le_of_ble_eq_true rfl) (fun Γ hl hΔ hF => ?_)
  subst hl hΔ
  show G Γ _ _ _ RX6 _ _ _ _ _ [(0, .ref (ad (0, 0, 0, 0)))] []
  have hN := hP.n
  refine G_iconst (pc := 0) dX6_keepUpGroups_0 ?_
  refine G_istore_ne (pc := 1) 1 (fun zw => [(1, .int (zI zw)), (0, .ref (ad (0, 0, 0, 0)))]) dX6_keepUpGroups_1 rfl (by decide) (fun _ => rfl) (fun v1 e1 => ?_)
  have L2 : ∀ (n : Nat) (g : Int) (T : zS), ((0 ≤ g ∧ g ≤ P 3 0 0) ∧ lp (zkG P) g (P 3 0 0) T = zkA P S ∧ zWS P T) → (P 3 0 0 - g).toNat < n → G Γ (zRm 8 0 0) cX6_keepUpGroups 2 RX6 ad (mm (z_d Γ) ad P T X) 0 0 2 [(0, .ref (ad (0, 0, 0, 0))), (1, .int (zI g))] [] := by
    intro n
    induction n with
    | zero => intro g T _ hn; omega
    | succ n ih2 =>
      intro g T hi2 hn2
      obtain ⟨hg0, hq, hTW⟩ := hi2
      refine G_iload_n (pc := 2) 1 1 dX6_keepUpGroups_2 rfl rfl ?_
      refine G_aload_n (pc := 3) 0 0 dX6_keepUpGroups_3 rfl rfl ?_
      refine G_getf (pc := 4) fl_X6_16 dX6_keepUpGroups_4 mg_0 rfl ?_
      refine G_callVd (pc := 7) gk_X6_57 dX6_keepUpGroups_7 mg_6 rfl (c_AL_size_6 ) rfl rfl (Nat.le_of_ble_eq_true rfl) ⟨⟨Nat.le_of_ble_eq_true rfl, Nat.le_of_ble_eq_true rfl⟩, Nat.le_of_ble_eq_true rfl, Nat.le_of_ble_eq_true rfl⟩ ?_
      refine G_icmp_ge (pc := 10) 33 dX6_keepUpGroups_10 (by decide) (by first | exact hS _ _ | exact hT _ _ | exact ⟨by omega, by omega⟩ | assumption) (by first | exact hS _ _ | exact hT _ _ | exact ⟨by omega, by omega⟩ | assumption) (fun c10 => ?_) (fun c10 => ?_)
      · exact G_vret_d (pc := 33) hF dX6_keepUpGroups_33 ⟨Nat.le_of_ble_eq_true rfl, Nat.le_of_ble_eq_true rfl⟩ (by rw [← hq, lp_end (by omega)])
      · refine G_aload_n (pc := 13) 0 0 dX6_keepUpGroups_13 rfl rfl ?_
        refine G_getf (pc := 14) fl_X6_16 dX6_keepUpGroups_14 mg_0 rfl ?_
        refine G_iload_n (pc := 17) 1 1 dX6_keepUpGroups_17 rfl rfl ?_
        refine G_callVd (pc := 18) gk_X6_111 dX6_keepUpGroups_18 mg_6 rfl (c_AL_get_6 (by first | assumption | omega | exact ⟨by omega, by omega⟩ | exact hS _ _ | exact hT _ _) (by first | assumption | omega | exact ⟨by omega, by omega⟩ | exact hS _ _ | exact hT _ _)) rfl rfl (Nat.le_of_ble_eq_true rfl) ⟨⟨Nat.le_of_ble_eq_true rfl, Nat.le_of_ble_eq_true rfl⟩, Nat.le_of_ble_eq_true rfl, Nat.le_of_ble_eq_true rfl⟩ ?_
        refine G_cast (pc := 21) ct_X6_138 dX6_keepUpGroups_21 (mg_15 (by first | assumption | omega | exact ⟨by omega, by omega⟩ | exact hS _ _ | exact hT _ _)) ?_
        refine G_callVv (pc := 24) gk_X6_183 dX6_keepUpGroups_24 (mg_15 (by first | assumption | omega | exact ⟨by omega, by omega⟩ | exact hS _ _ | exact hT _ _)) rfl (c_X0_keepUp (by first | assumption | omega | exact ⟨by omega, by omega⟩ | exact hS _ _ | exact hT _ _) (by first | assumption | omega | exact ⟨by omega, by omega⟩ | exact hS _ _ | exact hT _ _) (by first | assumption | omega | exact ⟨by omega, by omega⟩ | exact hS _ _ | exact hT _ _)) rfl rfl (Nat.le_of_ble_eq_true rfl) ⟨⟨Nat.le_of_ble_eq_true rfl, Nat.le_of_ble_eq_true rfl⟩, Nat.le_of_ble_eq_true rfl, Nat.le_of_ble_eq_true rfl⟩ ?_
        refine G_name (fun S1_24 hS1_24 => ?_)
        refine G_iinc_e (pc := 27) 1 (fun zw => [(1, .int (zI zw)), (0, .ref (ad (0, 0, 0, 0)))]) dX6_keepUpGroups_27 rfl (by decide) (fun _ => rfl) (fun v27 e27 => ?_)
        refine G_goto (pc := 30) 2 dX6_keepUpGroups_30 (by decide) ?_
        refine G_perm (lv' := [(0, .ref (ad (0, 0, 0, 0))), (1, .int (zI v27))]) [1, 0] rfl ?_
        exact ih2 v27 S1_24 ⟨by omega, by rw [e27, ← hq, lp_step (a := g) (n := P 3 0 0) (by omega), hS1_24]; rfl, by rw [hS1_24]; exact zkG_W hP ⟨by omega, by omega⟩ hTW⟩ (by omega)
  refine G_perm (lv' := [(0, .ref (ad (0, 0, 0, 0))), (1, .int (zI v1))]) [1, 0] rfl ?_
  exact L2 _ v1 S ⟨by omega, by rw [e1]; rfl, hW⟩ (Nat.lt_succ_self _)
set_option maxHeartbeats 4000000 in
set_option maxRecDepth 100000 in
theorem c_X6_start {l : Launch} {Δ : zDl} {ad : zK → Nat} {P : zP} {S : zS} {X : zMem} {t p : Int} (hP : zWP P) (ht : 0 ≤ t ∧ t < P 0 0 0) (hp : 0 ≤ p ∧ p < P 1 t 0) (hW : zWS P S) : zMn l Δ yX6_start cX6_start 3 (some .int) 9 0 0 [.ref (ad (0, 0, 0, 0)), .int (zI t), .int (zI p)] ad (mm Δ ad P S X) (zD (some (.int (zI (S (11, t, p, 0) 1)))) ad (mm Δ ad P S X)) := by
  refine zMn_of (by decide) (Nat.le_of_ble_eq_true rfl) (fun Γ hl hΔ hF => ?_)
  subst hl hΔ
  show G Γ _ _ _ RX6 _ _ _ _ _ [(0, .ref (ad (0, 0, 0, 0))), (1, .int (zI t)), (2, .int (zI p))] []
  have hS := hW.R
  have hN := hP.n
  have hk := hW.k
  have hl := hW.l
  have hT := hP.t ht
  have hM := hP.m ht hp
  have hE := zse_le hP (S := S) ht hp
  refine G_aload_n (pc := 0) 0 0 dX6_start_0 rfl rfl ?_
  refine G_iload_n (pc := 1) 1 1 dX6_start_1 rfl rfl ?_
  refine G_iload_n (pc := 2) 2 2 dX6_start_2 rfl rfl ?_
  refine G_callVd (pc := 3) gk_X6_149 dX6_start_3 mg_0 rfl (c_X6_partitionAt (by first | assumption | omega | exact ⟨by omega, by omega⟩ | exact hS _ _ | exact hT _ _) (by first | assumption | omega | exact ⟨by omega, by omega⟩ | exact hS _ _ | exact hT _ _) (by first | assumption | omega | exact ⟨by omega, by omega⟩ | exact hS _ _ | exact hT _ _)) rfl rfl (Nat.le_of_ble_eq_true rfl) ⟨⟨Nat.le_of_ble_eq_true rfl, Nat.le_of_ble_eq_true rfl⟩, Nat.le_of_ble_eq_true rfl, Nat.le_of_ble_eq_true rfl⟩ ?_
  refine G_getf (pc := 6) fl_X6_153 dX6_start_6 (mg_11 (by first | assumption | omega | exact ⟨by omega, by omega⟩ | exact hS _ _ | exact hT _ _)) rfl ?_
  exact G_iret_d (pc := 9) hF dX6_start_9 ⟨Nat.le_of_ble_eq_true rfl, Nat.le_of_ble_eq_true rfl⟩ (by first | rfl | omega | simp_all)
set_option maxHeartbeats 4000000 in
set_option maxRecDepth 100000 in
theorem c_X6_start_x {l : Launch} {Δ : zDl} {ad : zK → Nat} {P : zP} {S : zS} {X : zMem} {t p : Int} (hP : zWP P) (hW : zWS P S) (hr : zR t) (hq : zR p) (hn : ¬ ((0 ≤ t ∧ t < P 0 0 0) ∧ (0 ≤ p ∧ p < P 1 t 0))) (hst : l.stackTraces = false) : zMx l Δ yX6_start cX6_start 3 (some .int) 9 1 6 [.ref (ad (0, 0, 0, 0)), .int (zI t), .int (zI p)] ad (mm Δ ad P S X) zF0 (zE "java/lang/IndexOutOfBoundsException" ad (mm Δ ad P S X)) := by
  refine zMx_of hst (by decide) (Nat.le_of_ble_eq_true rfl) (fun Γ hl hΔ hF hX => ?_)
  subst hl hΔ
  show G Γ _ _ _ RX6 _ _ _ _ _ [(0, .ref (ad (0, 0, 0, 0))), (1, .int (zI t)), (2, .int (zI p))] []
  refine G_aload_n (pc := 0) 0 0 dX6_start_0 rfl rfl ?_
  refine G_iload_n (pc := 1) 1 1 dX6_start_1 rfl rfl ?_
  refine G_iload_n (pc := 2) 2 2 dX6_start_2 rfl rfl ?_
  exact G_callVt (pc := 3) gk_X6_149 dX6_start_3 mg_0 rfl (c_X6_partitionAt_x (by first | assumption | omega | exact ⟨by omega, by omega⟩ | exact hS _ _ | exact hT _ _) (by first | assumption | omega | exact ⟨by omega, by omega⟩ | exact hS _ _ | exact hT _ _) (by first | assumption | omega | exact ⟨by omega, by omega⟩ | exact hS _ _ | exact hT _ _) (by first | assumption | omega | exact ⟨by omega, by omega⟩ | exact hS _ _ | exact hT _ _) hst) rfl rfl (Nat.le_of_ble_eq_true rfl) ⟨⟨Nat.le_of_ble_eq_true rfl, Nat.le_of_ble_eq_true rfl⟩, Nat.le_of_ble_eq_true rfl, Nat.le_of_ble_eq_true rfl⟩ hX ⟨Nat.le_of_ble_eq_true rfl, Nat.le_of_ble_eq_true rfl⟩ ⟨rfl, rfl, rfl⟩
set_option maxHeartbeats 4000000 in
set_option maxRecDepth 100000 in
theorem c_X6_endOf {l : Launch} {Δ : zDl} {ad : zK → Nat} {P : zP} {S : zS} {X : zMem} {t p : Int} (hP : zWP P) (ht : 0 ≤ t ∧ t < P 0 0 0) (hp : 0 ≤ p ∧ p < P 1 t 0) (hW : zWS P S) : zMn l Δ yX6_endOf cX6_endOf 3 (some .int) 9 0 0 [.ref (ad (0, 0, 0, 0)), .int (zI t), .int (zI p)] ad (mm Δ ad P S X) (zD (some (.int (zI (P 2 t p)))) ad (mm Δ ad P S X)) := by
  refine zMn_of (by decide) (Nat.le_of_ble_eq_true rfl) (fun Γ hl hΔ hF => ?_)
  subst hl hΔ
  show G Γ _ _ _ RX6 _ _ _ _ _ [(0, .ref (ad (0, 0, 0, 0))), (1, .int (zI t)), (2, .int (zI p))] []
  have hS := hW.R
  have hN := hP.n
  have hk := hW.k
  have hl := hW.l
  have hT := hP.t ht
  have hM := hP.m ht hp
  have hE := zse_le hP (S := S) ht hp
  refine G_aload_n (pc := 0) 0 0 dX6_endOf_0 rfl rfl ?_
  refine G_iload_n (pc := 1) 1 1 dX6_endOf_1 rfl rfl ?_
  refine G_iload_n (pc := 2) 2 2 dX6_endOf_2 rfl rfl ?_
  refine G_callVd (pc := 3) gk_X6_149 dX6_endOf_3 mg_0 rfl (c_X6_partitionAt (by first | assumption | omega | exact ⟨by omega, by omega⟩ | exact hS _ _ | exact hT _ _) (by first | assumption | omega | exact ⟨by omega, by omega⟩ | exact hS _ _ | exact hT _ _) (by first | assumption | omega | exact ⟨by omega, by omega⟩ | exact hS _ _ | exact hT _ _)) rfl rfl (Nat.le_of_ble_eq_true rfl) ⟨⟨Nat.le_of_ble_eq_true rfl, Nat.le_of_ble_eq_true rfl⟩, Nat.le_of_ble_eq_true rfl, Nat.le_of_ble_eq_true rfl⟩ ?_
  refine G_callVd (pc := 6) gk_X6_156 dX6_endOf_6 (mg_11 (by first | assumption | omega | exact ⟨by omega, by omega⟩ | exact hS _ _ | exact hT _ _)) rfl (c_X3_size (by first | assumption | omega | exact ⟨by omega, by omega⟩ | exact hS _ _ | exact hT _ _) (by first | assumption | omega | exact ⟨by omega, by omega⟩ | exact hS _ _ | exact hT _ _)) rfl rfl (Nat.le_of_ble_eq_true rfl) ⟨⟨Nat.le_of_ble_eq_true rfl, Nat.le_of_ble_eq_true rfl⟩, Nat.le_of_ble_eq_true rfl, Nat.le_of_ble_eq_true rfl⟩ ?_
  exact G_iret_d (pc := 9) hF dX6_endOf_9 ⟨Nat.le_of_ble_eq_true rfl, Nat.le_of_ble_eq_true rfl⟩ (by first | rfl | omega | simp_all)
set_option maxHeartbeats 4000000 in
set_option maxRecDepth 100000 in
theorem c_X6_endOf_x {l : Launch} {Δ : zDl} {ad : zK → Nat} {P : zP} {S : zS} {X : zMem} {t p : Int} (hP : zWP P) (hW : zWS P S) (hr : zR t) (hq : zR p) (hn : ¬ ((0 ≤ t ∧ t < P 0 0 0) ∧ (0 ≤ p ∧ p < P 1 t 0))) (hst : l.stackTraces = false) : zMx l Δ yX6_endOf cX6_endOf 3 (some .int) 9 1 6 [.ref (ad (0, 0, 0, 0)), .int (zI t), .int (zI p)] ad (mm Δ ad P S X) zF0 (zE "java/lang/IndexOutOfBoundsException" ad (mm Δ ad P S X)) := by
  refine zMx_of hst (by decide) (Nat.le_of_ble_eq_true rfl) (fun Γ hl hΔ hF hX => ?_)
  subst hl hΔ
  show G Γ _ _ _ RX6 _ _ _ _ _ [(0, .ref (ad (0, 0, 0, 0))), (1, .int (zI t)), (2, .int (zI p))] []
  refine G_aload_n (pc := 0) 0 0 dX6_endOf_0 rfl rfl ?_
  refine G_iload_n (pc := 1) 1 1 dX6_endOf_1 rfl rfl ?_
  refine G_iload_n (pc := 2) 2 2 dX6_endOf_2 rfl rfl ?_
  exact G_callVt (pc := 3) gk_X6_149 dX6_endOf_3 mg_0 rfl (c_X6_partitionAt_x (by first | assumption | omega | exact ⟨by omega, by omega⟩ | exact hS _ _ | exact hT _ _) (by first | assumption | omega | exact ⟨by omega, by omega⟩ | exact hS _ _ | exact hT _ _) (by first | assumption | omega | exact ⟨by omega, by omega⟩ | exact hS _ _ | exact hT _ _) (by first | assumption | omega | exact ⟨by omega, by omega⟩ | exact hS _ _ | exact hT _ _) hst) rfl rfl (Nat.le_of_ble_eq_true rfl) ⟨⟨Nat.le_of_ble_eq_true rfl, Nat.le_of_ble_eq_true rfl⟩, Nat.le_of_ble_eq_true rfl, Nat.le_of_ble_eq_true rfl⟩ hX ⟨Nat.le_of_ble_eq_true rfl, Nat.le_of_ble_eq_true rfl⟩ ⟨rfl, rfl, rfl⟩
set_option maxHeartbeats 4000000 in
set_option maxRecDepth 100000 in
theorem c_X6_stable {l : Launch} {Δ : zDl} {ad : zK → Nat} {P : zP} {S : zS} {X : zMem} {t p : Int} (hP : zWP P) (ht : 0 ≤ t ∧ t < P 0 0 0) (hp : 0 ≤ p ∧ p < P 1 t 0) (hW : zWS P S) : zMn l Δ yX6_stable cX6_stable 3 (some .int) 9 0 0 [.ref (ad (0, 0, 0, 0)), .int (zI t), .int (zI p)] ad (mm Δ ad P S X) (zD (some (.int (zI (zse P S t p)))) ad (mm Δ ad P S X)) := by
  refine zMn_of (by decide) (Nat.le_of_ble_eq_true rfl) (fun Γ hl hΔ hF => ?_)
  subst hl hΔ
  show G Γ _ _ _ RX6 _ _ _ _ _ [(0, .ref (ad (0, 0, 0, 0))), (1, .int (zI t)), (2, .int (zI p))] []
  have hS := hW.R
  have hN := hP.n
  have hk := hW.k
  have hl := hW.l
  have hT := hP.t ht
  have hM := hP.m ht hp
  have hE := zse_le hP (S := S) ht hp
  refine G_aload_n (pc := 0) 0 0 dX6_stable_0 rfl rfl ?_
  refine G_iload_n (pc := 1) 1 1 dX6_stable_1 rfl rfl ?_
  refine G_iload_n (pc := 2) 2 2 dX6_stable_2 rfl rfl ?_
  refine G_callVd (pc := 3) gk_X6_149 dX6_stable_3 mg_0 rfl (c_X6_partitionAt (by first | assumption | omega | exact ⟨by omega, by omega⟩ | exact hS _ _ | exact hT _ _) (by first | assumption | omega | exact ⟨by omega, by omega⟩ | exact hS _ _ | exact hT _ _) (by first | assumption | omega | exact ⟨by omega, by omega⟩ | exact hS _ _ | exact hT _ _)) rfl rfl (Nat.le_of_ble_eq_true rfl) ⟨⟨Nat.le_of_ble_eq_true rfl, Nat.le_of_ble_eq_true rfl⟩, Nat.le_of_ble_eq_true rfl, Nat.le_of_ble_eq_true rfl⟩ ?_
  refine G_callVd (pc := 6) gk_X6_157 dX6_stable_6 (mg_11 (by first | assumption | omega | exact ⟨by omega, by omega⟩ | exact hS _ _ | exact hT _ _)) rfl (c_X3_stableEnd (by first | assumption | omega | exact ⟨by omega, by omega⟩ | exact hS _ _ | exact hT _ _) (by first | assumption | omega | exact ⟨by omega, by omega⟩ | exact hS _ _ | exact hT _ _) (by first | assumption | omega | exact ⟨by omega, by omega⟩ | exact hS _ _ | exact hT _ _) (by first | assumption | omega | exact ⟨by omega, by omega⟩ | exact hS _ _ | exact hT _ _)) rfl rfl (Nat.le_of_ble_eq_true rfl) ⟨⟨Nat.le_of_ble_eq_true rfl, Nat.le_of_ble_eq_true rfl⟩, Nat.le_of_ble_eq_true rfl, Nat.le_of_ble_eq_true rfl⟩ ?_
  exact G_iret_d (pc := 9) hF dX6_stable_9 ⟨Nat.le_of_ble_eq_true rfl, Nat.le_of_ble_eq_true rfl⟩ (by first | rfl | omega | simp_all)
set_option maxHeartbeats 4000000 in
set_option maxRecDepth 100000 in
theorem c_X6_stable_x {l : Launch} {Δ : zDl} {ad : zK → Nat} {P : zP} {S : zS} {X : zMem} {t p : Int} (hP : zWP P) (hW : zWS P S) (hr : zR t) (hq : zR p) (hn : ¬ ((0 ≤ t ∧ t < P 0 0 0) ∧ (0 ≤ p ∧ p < P 1 t 0))) (hst : l.stackTraces = false) : zMx l Δ yX6_stable cX6_stable 3 (some .int) 9 1 6 [.ref (ad (0, 0, 0, 0)), .int (zI t), .int (zI p)] ad (mm Δ ad P S X) zF0 (zE "java/lang/IndexOutOfBoundsException" ad (mm Δ ad P S X)) := by
  refine zMx_of hst (by decide) (Nat.le_of_ble_eq_true rfl) (fun Γ hl hΔ hF hX => ?_)
  subst hl hΔ
  show G Γ _ _ _ RX6 _ _ _ _ _ [(0, .ref (ad (0, 0, 0, 0))), (1, .int (zI t)), (2, .int (zI p))] []
  refine G_aload_n (pc := 0) 0 0 dX6_stable_0 rfl rfl ?_
  refine G_iload_n (pc := 1) 1 1 dX6_stable_1 rfl rfl ?_
  refine G_iload_n (pc := 2) 2 2 dX6_stable_2 rfl rfl ?_
  exact G_callVt (pc := 3) gk_X6_149 dX6_stable_3 mg_0 rfl (c_X6_partitionAt_x (by first | assumption | omega | exact ⟨by omega, by omega⟩ | exact hS _ _ | exact hT _ _) (by first | assumption | omega | exact ⟨by omega, by omega⟩ | exact hS _ _ | exact hT _ _) (by first | assumption | omega | exact ⟨by omega, by omega⟩ | exact hS _ _ | exact hT _ _) (by first | assumption | omega | exact ⟨by omega, by omega⟩ | exact hS _ _ | exact hT _ _) hst) rfl rfl (Nat.le_of_ble_eq_true rfl) ⟨⟨Nat.le_of_ble_eq_true rfl, Nat.le_of_ble_eq_true rfl⟩, Nat.le_of_ble_eq_true rfl, Nat.le_of_ble_eq_true rfl⟩ hX ⟨Nat.le_of_ble_eq_true rfl, Nat.le_of_ble_eq_true rfl⟩ ⟨rfl, rfl, rfl⟩
set_option maxHeartbeats 4000000 in
set_option maxRecDepth 100000 in
theorem c_X6_message {l : Launch} {Δ : zDl} {ad : zK → Nat} {P : zP} {S : zS} {X : zMem} {t p o w : Int} (hP : zWP P) (ht : 0 ≤ t ∧ t < P 0 0 0) (hp : 0 ≤ p ∧ p < P 1 t 0) (ho : 0 ≤ o ∧ o < P 2 t p) (hW : zWS P S) (hw : 0 ≤ w ∧ w ≤ 4) : zMn l Δ yX6_message cX6_message 6 (some .int) 9 0 0 [.ref (ad (0, 0, 0, 0)), .int (zI t), .int (zI p), .int (zI o), .int (zI w)] ad (mm Δ ad P S X) (zD (some (.int (zI (ztl S t p o w)))) ad (mm Δ ad P S X)) := by
  refine zMn_of (by decide) (Nat.le_of_ble_eq_true rfl) (fun Γ hl hΔ hF => ?_)
  subst hl hΔ
  show G Γ _ _ _ RX6 _ _ _ _ _ [(0, .ref (ad (0, 0, 0, 0))), (1, .int (zI t)), (2, .int (zI p)), (3, .int (zI o)), (4, .int (zI w))] []
  have hS := hW.R
  have hN := hP.n
  have hk := hW.k
  have hl := hW.l
  have hT := hP.t ht
  have hM := hP.m ht hp
  have hE := zse_le hP (S := S) ht hp
  refine G_aload_n (pc := 0) 0 0 dX6_message_0 rfl rfl ?_
  refine G_iload_n (pc := 1) 1 1 dX6_message_1 rfl rfl ?_
  refine G_iload_n (pc := 2) 2 2 dX6_message_2 rfl rfl ?_
  refine G_callVd (pc := 3) gk_X6_149 dX6_message_3 mg_0 rfl (c_X6_partitionAt (by first | assumption | omega | exact ⟨by omega, by omega⟩ | exact hS _ _ | exact hT _ _) (by first | assumption | omega | exact ⟨by omega, by omega⟩ | exact hS _ _ | exact hT _ _) (by first | assumption | omega | exact ⟨by omega, by omega⟩ | exact hS _ _ | exact hT _ _)) rfl rfl (Nat.le_of_ble_eq_true rfl) ⟨⟨Nat.le_of_ble_eq_true rfl, Nat.le_of_ble_eq_true rfl⟩, Nat.le_of_ble_eq_true rfl, Nat.le_of_ble_eq_true rfl⟩ ?_
  refine G_astore (pc := 6) [(5, .ref (ad (11, t, p, 0))), (0, .ref (ad (0, 0, 0, 0))), (1, .int (zI t)), (2, .int (zI p)), (3, .int (zI o)), (4, .int (zI w))] dX6_message_6 (by decide) rfl ?_
  refine G_aload (pc := 8) 0 dX6_message_8 rfl ?_
  refine G_iload_n (pc := 10) 3 4 dX6_message_10 rfl rfl ?_
  refine G_callSv (pc := 11) gk_X6_160 dX6_message_11 (c_X6_refuseOtherOffsets (by first | assumption | omega | exact ⟨by omega, by omega⟩ | exact hS _ _ | exact hT _ _) (by first | assumption | omega | exact ⟨by omega, by omega⟩ | exact hS _ _ | exact hT _ _) (by first | assumption | omega | exact ⟨by omega, by omega⟩ | exact hS _ _ | exact hT _ _) (by first | assumption | omega | exact ⟨by omega, by omega⟩ | exact hS _ _ | exact hT _ _)) rfl rfl (Nat.le_of_ble_eq_true rfl) ⟨⟨Nat.le_of_ble_eq_true rfl, Nat.le_of_ble_eq_true rfl⟩, Nat.le_of_ble_eq_true rfl, Nat.le_of_ble_eq_true rfl⟩ ?_
  refine G_iload (pc := 14) 5 dX6_message_14 rfl ?_
  refine G_callSv (pc := 16) gk_X6_164 dX6_message_16 (c_X6_refuseOtherWhats (by first | assumption | omega | exact ⟨by omega, by omega⟩ | exact hS _ _ | exact hT _ _)) rfl rfl (Nat.le_of_ble_eq_true rfl) ⟨⟨Nat.le_of_ble_eq_true rfl, Nat.le_of_ble_eq_true rfl⟩, Nat.le_of_ble_eq_true rfl, Nat.le_of_ble_eq_true rfl⟩ ?_
  refine G_aload (pc := 19) 0 dX6_message_19 rfl ?_
  refine G_iload_n (pc := 21) 3 4 dX6_message_21 rfl rfl ?_
  refine G_callVd (pc := 22) gk_X6_167 dX6_message_22 (mg_11 (by first | assumption | omega | exact ⟨by omega, by omega⟩ | exact hS _ _ | exact hT _ _)) rfl (c_X3_at (by first | assumption | omega | exact ⟨by omega, by omega⟩ | exact hS _ _ | exact hT _ _) (by first | assumption | omega | exact ⟨by omega, by omega⟩ | exact hS _ _ | exact hT _ _) (by first | assumption | omega | exact ⟨by omega, by omega⟩ | exact hS _ _ | exact hT _ _) (by first | assumption | omega | exact ⟨by omega, by omega⟩ | exact hS _ _ | exact hT _ _)) rfl rfl (Nat.le_of_ble_eq_true rfl) ⟨⟨Nat.le_of_ble_eq_true rfl, Nat.le_of_ble_eq_true rfl⟩, Nat.le_of_ble_eq_true rfl, Nat.le_of_ble_eq_true rfl⟩ ?_
  refine G_iload (pc := 25) 5 dX6_message_25 rfl ?_
  refine G_callVd (pc := 27) gk_X6_171 dX6_message_27 (mg_14 (by first | assumption | omega | exact ⟨by omega, by omega⟩ | exact hS _ _ | exact hT _ _)) rfl (c_X2_tell (by first | assumption | omega | exact ⟨by omega, by omega⟩ | exact hS _ _ | exact hT _ _) (by first | assumption | omega | exact ⟨by omega, by omega⟩ | exact hS _ _ | exact hT _ _) (by first | assumption | omega | exact ⟨by omega, by omega⟩ | exact hS _ _ | exact hT _ _) (by first | assumption | omega | exact ⟨by omega, by omega⟩ | exact hS _ _ | exact hT _ _) (by first | assumption | omega | exact ⟨by omega, by omega⟩ | exact hS _ _ | exact hT _ _)) rfl rfl (Nat.le_of_ble_eq_true rfl) ⟨⟨Nat.le_of_ble_eq_true rfl, Nat.le_of_ble_eq_true rfl⟩, Nat.le_of_ble_eq_true rfl, Nat.le_of_ble_eq_true rfl⟩ ?_
  exact G_iret_d (pc := 30) hF dX6_message_30 ⟨Nat.le_of_ble_eq_true rfl, Nat.le_of_ble_eq_true rfl⟩ (by first | rfl | omega | simp_all)
set_option maxHeartbeats 4000000 in
set_option maxRecDepth 100000 in
theorem c_X6_message_xa {l : Launch} {Δ : zDl} {ad : zK → Nat} {P : zP} {S : zS} {X : zMem} {t p o w : Int} (hP : zWP P) (hW : zWS P S) (hr : zR t) (hq : zR p) (hn : ¬ ((0 ≤ t ∧ t < P 0 0 0) ∧ (0 ≤ p ∧ p < P 1 t 0))) (hst : l.stackTraces = false) : zMx l Δ yX6_message cX6_message 6 (some .int) 9 1 6 [.ref (ad (0, 0, 0, 0)), .int (zI t), .int (zI p), .int (zI o), .int (zI w)] ad (mm Δ ad P S X) zF0 (zE "java/lang/IndexOutOfBoundsException" ad (mm Δ ad P S X)) := by
  refine zMx_of hst (by decide) (Nat.le_of_ble_eq_true rfl) (fun Γ hl hΔ hF hX => ?_)
  subst hl hΔ
  show G Γ _ _ _ RX6 _ _ _ _ _ [(0, .ref (ad (0, 0, 0, 0))), (1, .int (zI t)), (2, .int (zI p)), (3, .int (zI o)), (4, .int (zI w))] []
  refine G_aload_n (pc := 0) 0 0 dX6_message_0 rfl rfl ?_
  refine G_iload_n (pc := 1) 1 1 dX6_message_1 rfl rfl ?_
  refine G_iload_n (pc := 2) 2 2 dX6_message_2 rfl rfl ?_
  exact G_callVt (pc := 3) gk_X6_149 dX6_message_3 mg_0 rfl (c_X6_partitionAt_x (by first | assumption | omega | exact ⟨by omega, by omega⟩ | exact hS _ _ | exact hT _ _) (by first | assumption | omega | exact ⟨by omega, by omega⟩ | exact hS _ _ | exact hT _ _) (by first | assumption | omega | exact ⟨by omega, by omega⟩ | exact hS _ _ | exact hT _ _) (by first | assumption | omega | exact ⟨by omega, by omega⟩ | exact hS _ _ | exact hT _ _) hst) rfl rfl (Nat.le_of_ble_eq_true rfl) ⟨⟨Nat.le_of_ble_eq_true rfl, Nat.le_of_ble_eq_true rfl⟩, Nat.le_of_ble_eq_true rfl, Nat.le_of_ble_eq_true rfl⟩ hX ⟨Nat.le_of_ble_eq_true rfl, Nat.le_of_ble_eq_true rfl⟩ ⟨rfl, rfl, rfl⟩
set_option maxHeartbeats 4000000 in
set_option maxRecDepth 100000 in
theorem c_X6_message_xb {l : Launch} {Δ : zDl} {ad : zK → Nat} {P : zP} {S : zS} {X : zMem} {t p o w : Int} (hP : zWP P) (ht : 0 ≤ t ∧ t < P 0 0 0) (hp : 0 ≤ p ∧ p < P 1 t 0) (hW : zWS P S) (hr : zR o) (hn : ¬ (0 ≤ o ∧ o < P 2 t p)) (hst : l.stackTraces = false) : zMx l Δ yX6_message cX6_message 6 (some .int) 9 1 6 [.ref (ad (0, 0, 0, 0)), .int (zI t), .int (zI p), .int (zI o), .int (zI w)] ad (mm Δ ad P S X) zF0 (zE "java/lang/IndexOutOfBoundsException" ad (mm Δ ad P S X)) := by
  refine zMx_of hst (by decide) (Nat.le_of_ble_eq_true rfl) (fun Γ hl hΔ hF hX => ?_)
  subst hl hΔ
  show G Γ _ _ _ RX6 _ _ _ _ _ [(0, .ref (ad (0, 0, 0, 0))), (1, .int (zI t)), (2, .int (zI p)), (3, .int (zI o)), (4, .int (zI w))] []
  have hS := hW.R
  have hN := hP.n
  have hk := hW.k
  have hl := hW.l
  have hT := hP.t ht
  have hM := hP.m ht hp
  have hE := zse_le hP (S := S) ht hp
  refine G_aload_n (pc := 0) 0 0 dX6_message_0 rfl rfl ?_
  refine G_iload_n (pc := 1) 1 1 dX6_message_1 rfl rfl ?_
  refine G_iload_n (pc := 2) 2 2 dX6_message_2 rfl rfl ?_
  refine G_callVd (pc := 3) gk_X6_149 dX6_message_3 mg_0 rfl (c_X6_partitionAt (by first | assumption | omega | exact ⟨by omega, by omega⟩ | exact hS _ _ | exact hT _ _) (by first | assumption | omega | exact ⟨by omega, by omega⟩ | exact hS _ _ | exact hT _ _) (by first | assumption | omega | exact ⟨by omega, by omega⟩ | exact hS _ _ | exact hT _ _)) rfl rfl (Nat.le_of_ble_eq_true rfl) ⟨⟨Nat.le_of_ble_eq_true rfl, Nat.le_of_ble_eq_true rfl⟩, Nat.le_of_ble_eq_true rfl, Nat.le_of_ble_eq_true rfl⟩ ?_
  refine G_astore (pc := 6) [(5, .ref (ad (11, t, p, 0))), (0, .ref (ad (0, 0, 0, 0))), (1, .int (zI t)), (2, .int (zI p)), (3, .int (zI o)), (4, .int (zI w))] dX6_message_6 (by decide) rfl ?_
  refine G_aload (pc := 8) 0 dX6_message_8 rfl ?_
  refine G_iload_n (pc := 10) 3 4 dX6_message_10 rfl rfl ?_
  exact G_callSt (pc := 11) gk_X6_160 dX6_message_11 (c_X6_refuseOtherOffsets_x (by first | assumption | omega | exact ⟨by omega, by omega⟩ | exact hS _ _ | exact hT _ _) (by first | assumption | omega | exact ⟨by omega, by omega⟩ | exact hS _ _ | exact hT _ _) (by first | assumption | omega | exact ⟨by omega, by omega⟩ | exact hS _ _ | exact hT _ _) (by first | assumption | omega | exact ⟨by omega, by omega⟩ | exact hS _ _ | exact hT _ _) (by first | assumption | omega | exact ⟨by omega, by omega⟩ | exact hS _ _ | exact hT _ _) hst) rfl rfl (Nat.le_of_ble_eq_true rfl) ⟨⟨Nat.le_of_ble_eq_true rfl, Nat.le_of_ble_eq_true rfl⟩, Nat.le_of_ble_eq_true rfl, Nat.le_of_ble_eq_true rfl⟩ hX ⟨Nat.le_of_ble_eq_true rfl, Nat.le_of_ble_eq_true rfl⟩ ⟨rfl, rfl, rfl⟩
set_option maxHeartbeats 4000000 in
set_option maxRecDepth 100000 in
theorem c_X6_message_x {l : Launch} {Δ : zDl} {ad : zK → Nat} {P : zP} {S : zS} {X : zMem} {t p o w : Int} (hP : zWP P) (hW : zWS P S) (hr : zR t) (hq : zR p) (ho : zR o) (hn : ¬ (((0 ≤ t ∧ t < P 0 0 0) ∧ (0 ≤ p ∧ p < P 1 t 0)) ∧ (0 ≤ o ∧ o < P 2 t p))) (hst : l.stackTraces = false) : zMx l Δ yX6_message cX6_message 6 (some .int) 9 1 6 [.ref (ad (0, 0, 0, 0)), .int (zI t), .int (zI p), .int (zI o), .int (zI w)] ad (mm Δ ad P S X) zF0 (zE "java/lang/IndexOutOfBoundsException" ad (mm Δ ad P S X)) := by
  by_cases h : (0 ≤ t ∧ t < P 0 0 0) ∧ (0 ≤ p ∧ p < P 1 t 0)
  · exact c_X6_message_xb hP h.1 h.2 hW ho (fun q => hn ⟨h, q⟩) hst
  · exact c_X6_message_xa hP hW hr hq h hst
set_option maxHeartbeats 4000000 in
set_option maxRecDepth 100000 in
theorem c_X6_message_y {l : Launch} {Δ : zDl} {ad : zK → Nat} {P : zP} {S : zS} {X : zMem} {t p o w : Int} (hP : zWP P) (ht : 0 ≤ t ∧ t < P 0 0 0) (hp : 0 ≤ p ∧ p < P 1 t 0) (ho : 0 ≤ o ∧ o < P 2 t p) (hW : zWS P S) (hr : zR w) (hn : ¬ (0 ≤ w ∧ w ≤ 4)) (hst : l.stackTraces = false) : zMx l Δ yX6_message cX6_message 6 (some .int) 9 1 6 [.ref (ad (0, 0, 0, 0)), .int (zI t), .int (zI p), .int (zI o), .int (zI w)] ad (mm Δ ad P S X) zF0 (zE "java/lang/IllegalArgumentException" ad (mm Δ ad P S X)) := by
  refine zMx_of hst (by decide) (Nat.le_of_ble_eq_true rfl) (fun Γ hl hΔ hF hX => ?_)
  subst hl hΔ
  show G Γ _ _ _ RX6 _ _ _ _ _ [(0, .ref (ad (0, 0, 0, 0))), (1, .int (zI t)), (2, .int (zI p)), (3, .int (zI o)), (4, .int (zI w))] []
  have hS := hW.R
  have hN := hP.n
  have hk := hW.k
  have hl := hW.l
  have hT := hP.t ht
  have hM := hP.m ht hp
  have hE := zse_le hP (S := S) ht hp
  refine G_aload_n (pc := 0) 0 0 dX6_message_0 rfl rfl ?_
  refine G_iload_n (pc := 1) 1 1 dX6_message_1 rfl rfl ?_
  refine G_iload_n (pc := 2) 2 2 dX6_message_2 rfl rfl ?_
  refine G_callVd (pc := 3) gk_X6_149 dX6_message_3 mg_0 rfl (c_X6_partitionAt (by first | assumption | omega | exact ⟨by omega, by omega⟩ | exact hS _ _ | exact hT _ _) (by first | assumption | omega | exact ⟨by omega, by omega⟩ | exact hS _ _ | exact hT _ _) (by first | assumption | omega | exact ⟨by omega, by omega⟩ | exact hS _ _ | exact hT _ _)) rfl rfl (Nat.le_of_ble_eq_true rfl) ⟨⟨Nat.le_of_ble_eq_true rfl, Nat.le_of_ble_eq_true rfl⟩, Nat.le_of_ble_eq_true rfl, Nat.le_of_ble_eq_true rfl⟩ ?_
  refine G_astore (pc := 6) [(5, .ref (ad (11, t, p, 0))), (0, .ref (ad (0, 0, 0, 0))), (1, .int (zI t)), (2, .int (zI p)), (3, .int (zI o)), (4, .int (zI w))] dX6_message_6 (by decide) rfl ?_
  refine G_aload (pc := 8) 0 dX6_message_8 rfl ?_
  refine G_iload_n (pc := 10) 3 4 dX6_message_10 rfl rfl ?_
  refine G_callSv (pc := 11) gk_X6_160 dX6_message_11 (c_X6_refuseOtherOffsets (by first | assumption | omega | exact ⟨by omega, by omega⟩ | exact hS _ _ | exact hT _ _) (by first | assumption | omega | exact ⟨by omega, by omega⟩ | exact hS _ _ | exact hT _ _) (by first | assumption | omega | exact ⟨by omega, by omega⟩ | exact hS _ _ | exact hT _ _) (by first | assumption | omega | exact ⟨by omega, by omega⟩ | exact hS _ _ | exact hT _ _)) rfl rfl (Nat.le_of_ble_eq_true rfl) ⟨⟨Nat.le_of_ble_eq_true rfl, Nat.le_of_ble_eq_true rfl⟩, Nat.le_of_ble_eq_true rfl, Nat.le_of_ble_eq_true rfl⟩ ?_
  refine G_iload (pc := 14) 5 dX6_message_14 rfl ?_
  exact G_callSt (pc := 16) gk_X6_164 dX6_message_16 (c_X6_refuseOtherWhats_x (by first | assumption | omega | exact ⟨by omega, by omega⟩ | exact hS _ _ | exact hT _ _) (by first | assumption | omega | exact ⟨by omega, by omega⟩ | exact hS _ _ | exact hT _ _) hst) rfl rfl (Nat.le_of_ble_eq_true rfl) ⟨⟨Nat.le_of_ble_eq_true rfl, Nat.le_of_ble_eq_true rfl⟩, Nat.le_of_ble_eq_true rfl, Nat.le_of_ble_eq_true rfl⟩ hX ⟨Nat.le_of_ble_eq_true rfl, Nat.le_of_ble_eq_true rfl⟩ ⟨rfl, rfl, rfl⟩
set_option maxHeartbeats 4000000 in
set_option maxRecDepth 100000 in
theorem c_X6_kept {l : Launch} {Δ : zDl} {ad : zK → Nat} {P : zP} {S : zS} {X : zMem} {t : Int} (hP : zWP P) (ht : 0 ≤ t ∧ t < P 0 0 0) (hW : zWS P S) : zMn l Δ yX6_kept cX6_kept 2 (some .int) 9 0 0 [.ref (ad (0, 0, 0, 0)), .int (zI t)] ad (mm Δ ad P S X) (zD (some (.int (zI (sm (fun p => ztk P S t p) 0 (P 1 t 0))))) ad (mm Δ ad P S X)) := by
  refine zMn_of (by decide) (Nat.le_of_ble_eq_true rfl) (fun Γ hl hΔ hF => ?_)
  subst hl hΔ
  show G Γ _ _ _ RX6 _ _ _ _ _ [(0, .ref (ad (0, 0, 0, 0))), (1, .int (zI t))] []
  have hS := hW.R
  have hN := hP.n
  have hk := hW.k
  have hl := hW.l
  have hT := hP.t ht
  refine G_aload_n (pc := 0) 0 0 dX6_kept_0 rfl rfl ?_
  refine G_iload_n (pc := 1) 1 1 dX6_kept_1 rfl rfl ?_
  refine G_callVd (pc := 2) gk_X6_75 dX6_kept_2 mg_0 rfl (c_X6_topicAt (by first | assumption | omega | exact ⟨by omega, by omega⟩ | exact hS _ _ | exact hT _ _) (by first | assumption | omega | exact ⟨by omega, by omega⟩ | exact hS _ _ | exact hT _ _)) rfl rfl (Nat.le_of_ble_eq_true rfl) ⟨⟨Nat.le_of_ble_eq_true rfl, Nat.le_of_ble_eq_true rfl⟩, Nat.le_of_ble_eq_true rfl, Nat.le_of_ble_eq_true rfl⟩ ?_
  refine G_callVd (pc := 5) gk_X6_175 dX6_kept_5 (mg_8 (by first | assumption | omega | exact ⟨by omega, by omega⟩ | exact hS _ _ | exact hT _ _)) rfl (c_X5_countKept (by first | assumption | omega | exact ⟨by omega, by omega⟩ | exact hS _ _ | exact hT _ _) (by first | assumption | omega | exact ⟨by omega, by omega⟩ | exact hS _ _ | exact hT _ _) (by first | assumption | omega | exact ⟨by omega, by omega⟩ | exact hS _ _ | exact hT _ _)) rfl rfl (Nat.le_of_ble_eq_true rfl) ⟨⟨Nat.le_of_ble_eq_true rfl, Nat.le_of_ble_eq_true rfl⟩, Nat.le_of_ble_eq_true rfl, Nat.le_of_ble_eq_true rfl⟩ ?_
  exact G_iret_d (pc := 8) hF dX6_kept_8 ⟨Nat.le_of_ble_eq_true rfl, Nat.le_of_ble_eq_true rfl⟩ (by first | rfl | omega | simp_all)
set_option maxHeartbeats 4000000 in
set_option maxRecDepth 100000 in
theorem c_X6_kept_x {l : Launch} {Δ : zDl} {ad : zK → Nat} {P : zP} {S : zS} {X : zMem} {t : Int} (hP : zWP P) (hW : zWS P S) (hr : zR t) (hn : ¬ (0 ≤ t ∧ t < P 0 0 0)) (hst : l.stackTraces = false) : zMx l Δ yX6_kept cX6_kept 2 (some .int) 9 1 6 [.ref (ad (0, 0, 0, 0)), .int (zI t)] ad (mm Δ ad P S X) zF0 (zE "java/lang/IndexOutOfBoundsException" ad (mm Δ ad P S X)) := by
  refine zMx_of hst (by decide) (Nat.le_of_ble_eq_true rfl) (fun Γ hl hΔ hF hX => ?_)
  subst hl hΔ
  show G Γ _ _ _ RX6 _ _ _ _ _ [(0, .ref (ad (0, 0, 0, 0))), (1, .int (zI t))] []
  refine G_aload_n (pc := 0) 0 0 dX6_kept_0 rfl rfl ?_
  refine G_iload_n (pc := 1) 1 1 dX6_kept_1 rfl rfl ?_
  exact G_callVt (pc := 2) gk_X6_75 dX6_kept_2 mg_0 rfl (c_X6_topicAt_x (by first | assumption | omega | exact ⟨by omega, by omega⟩ | exact hS _ _ | exact hT _ _) (by first | assumption | omega | exact ⟨by omega, by omega⟩ | exact hS _ _ | exact hT _ _) (by first | assumption | omega | exact ⟨by omega, by omega⟩ | exact hS _ _ | exact hT _ _) hst) rfl rfl (Nat.le_of_ble_eq_true rfl) ⟨⟨Nat.le_of_ble_eq_true rfl, Nat.le_of_ble_eq_true rfl⟩, Nat.le_of_ble_eq_true rfl, Nat.le_of_ble_eq_true rfl⟩ hX ⟨Nat.le_of_ble_eq_true rfl, Nat.le_of_ble_eq_true rfl⟩ ⟨rfl, rfl, rfl⟩
set_option maxHeartbeats 4000000 in
set_option maxRecDepth 100000 in
theorem c_X6_wouldDrop {l : Launch} {Δ : zDl} {ad : zK → Nat} {P : zP} {S : zS} {X : zMem} {t : Int} (hP : zWP P) (ht : 0 ≤ t ∧ t < P 0 0 0) (hW : zWS P S) : zMn l Δ yX6_wouldDrop cX6_wouldDrop 2 (some .int) 9 0 0 [.ref (ad (0, 0, 0, 0)), .int (zI t)] ad (mm Δ ad P S X) (zD (some (.int (zI (sm (fun p => ztc P S t p) 0 (P 1 t 0))))) ad (mm Δ ad P S X)) := by
  refine zMn_of (by decide) (Nat.le_of_ble_eq_true rfl) (fun Γ hl hΔ hF => ?_)
  subst hl hΔ
  show G Γ _ _ _ RX6 _ _ _ _ _ [(0, .ref (ad (0, 0, 0, 0))), (1, .int (zI t))] []
  have hS := hW.R
  have hN := hP.n
  have hk := hW.k
  have hl := hW.l
  have hT := hP.t ht
  refine G_aload_n (pc := 0) 0 0 dX6_wouldDrop_0 rfl rfl ?_
  refine G_iload_n (pc := 1) 1 1 dX6_wouldDrop_1 rfl rfl ?_
  refine G_callVd (pc := 2) gk_X6_75 dX6_wouldDrop_2 mg_0 rfl (c_X6_topicAt (by first | assumption | omega | exact ⟨by omega, by omega⟩ | exact hS _ _ | exact hT _ _) (by first | assumption | omega | exact ⟨by omega, by omega⟩ | exact hS _ _ | exact hT _ _)) rfl rfl (Nat.le_of_ble_eq_true rfl) ⟨⟨Nat.le_of_ble_eq_true rfl, Nat.le_of_ble_eq_true rfl⟩, Nat.le_of_ble_eq_true rfl, Nat.le_of_ble_eq_true rfl⟩ ?_
  refine G_callVd (pc := 5) gk_X6_285 dX6_wouldDrop_5 (mg_8 (by first | assumption | omega | exact ⟨by omega, by omega⟩ | exact hS _ _ | exact hT _ _)) rfl (c_X5_countOutdated (by first | assumption | omega | exact ⟨by omega, by omega⟩ | exact hS _ _ | exact hT _ _) (by first | assumption | omega | exact ⟨by omega, by omega⟩ | exact hS _ _ | exact hT _ _) (by first | assumption | omega | exact ⟨by omega, by omega⟩ | exact hS _ _ | exact hT _ _)) rfl rfl (Nat.le_of_ble_eq_true rfl) ⟨⟨Nat.le_of_ble_eq_true rfl, Nat.le_of_ble_eq_true rfl⟩, Nat.le_of_ble_eq_true rfl, Nat.le_of_ble_eq_true rfl⟩ ?_
  exact G_iret_d (pc := 8) hF dX6_wouldDrop_8 ⟨Nat.le_of_ble_eq_true rfl, Nat.le_of_ble_eq_true rfl⟩ (by first | rfl | omega | simp_all)
set_option maxHeartbeats 4000000 in
set_option maxRecDepth 100000 in
theorem c_X6_wouldDrop_x {l : Launch} {Δ : zDl} {ad : zK → Nat} {P : zP} {S : zS} {X : zMem} {t : Int} (hP : zWP P) (hW : zWS P S) (hr : zR t) (hn : ¬ (0 ≤ t ∧ t < P 0 0 0)) (hst : l.stackTraces = false) : zMx l Δ yX6_wouldDrop cX6_wouldDrop 2 (some .int) 9 1 6 [.ref (ad (0, 0, 0, 0)), .int (zI t)] ad (mm Δ ad P S X) zF0 (zE "java/lang/IndexOutOfBoundsException" ad (mm Δ ad P S X)) := by
  refine zMx_of hst (by decide) (Nat.le_of_ble_eq_true rfl) (fun Γ hl hΔ hF hX => ?_)
  subst hl hΔ
  show G Γ _ _ _ RX6 _ _ _ _ _ [(0, .ref (ad (0, 0, 0, 0))), (1, .int (zI t))] []
  refine G_aload_n (pc := 0) 0 0 dX6_wouldDrop_0 rfl rfl ?_
  refine G_iload_n (pc := 1) 1 1 dX6_wouldDrop_1 rfl rfl ?_
  exact G_callVt (pc := 2) gk_X6_75 dX6_wouldDrop_2 mg_0 rfl (c_X6_topicAt_x (by first | assumption | omega | exact ⟨by omega, by omega⟩ | exact hS _ _ | exact hT _ _) (by first | assumption | omega | exact ⟨by omega, by omega⟩ | exact hS _ _ | exact hT _ _) (by first | assumption | omega | exact ⟨by omega, by omega⟩ | exact hS _ _ | exact hT _ _) hst) rfl rfl (Nat.le_of_ble_eq_true rfl) ⟨⟨Nat.le_of_ble_eq_true rfl, Nat.le_of_ble_eq_true rfl⟩, Nat.le_of_ble_eq_true rfl, Nat.le_of_ble_eq_true rfl⟩ hX ⟨Nat.le_of_ble_eq_true rfl, Nat.le_of_ble_eq_true rfl⟩ ⟨rfl, rfl, rfl⟩
set_option maxHeartbeats 4000000 in
set_option maxRecDepth 100000 in
theorem c_X6_clock {l : Launch} {Δ : zDl} {ad : zK → Nat} {P : zP} {S : zS} {X : zMem}  (hP : zWP P) (hW : zWS P S) : zMn l Δ yX6_clock cX6_clock 1 (some .int) 9 0 0 [.ref (ad (0, 0, 0, 0))] ad (mm Δ ad P S X) (zD (some (.int (zI (S (0, 0, 0, 0) 6)))) ad (mm Δ ad P S X)) := by
  refine zMn_of (by decide) (Nat.le_of_ble_eq_true rfl) (fun Γ hl hΔ hF => ?_)
  subst hl hΔ
  show G Γ _ _ _ RX6 _ _ _ _ _ [(0, .ref (ad (0, 0, 0, 0)))] []
  have hS := hW.R
  have hN := hP.n
  have hk := hW.k
  have hl := hW.l
  refine G_aload_n (pc := 0) 0 0 dX6_clock_0 rfl rfl ?_
  refine G_getf (pc := 1) fl_X6_37 dX6_clock_1 mg_0 rfl ?_
  exact G_iret_d (pc := 4) hF dX6_clock_4 ⟨Nat.le_of_ble_eq_true rfl, Nat.le_of_ble_eq_true rfl⟩ (by first | rfl | omega | simp_all)
set_option maxHeartbeats 4000000 in
set_option maxRecDepth 100000 in
theorem c_X6_ledger {l : Launch} {Δ : zDl} {ad : zK → Nat} {P : zP} {S : zS} {X : zMem}  (hP : zWP P) (hW : zWS P S) : zMn l Δ yX6_ledger cX6_ledger 1 (some .int) 9 0 0 [.ref (ad (0, 0, 0, 0))] ad (mm Δ ad P S X) (zD (some (.int (zI (S (1, 0, 0, 0) 1)))) ad (mm Δ ad P S X)) := by
  refine zMn_of (by decide) (Nat.le_of_ble_eq_true rfl) (fun Γ hl hΔ hF => ?_)
  subst hl hΔ
  show G Γ _ _ _ RX6 _ _ _ _ _ [(0, .ref (ad (0, 0, 0, 0)))] []
  have hS := hW.R
  have hN := hP.n
  have hk := hW.k
  have hl := hW.l
  refine G_aload_n (pc := 0) 0 0 dX6_ledger_0 rfl rfl ?_
  refine G_getf (pc := 1) fl_X6_22 dX6_ledger_1 mg_0 rfl ?_
  refine G_getf (pc := 4) fl_X6_266 dX6_ledger_4 mg_1 rfl ?_
  exact G_iret_d (pc := 7) hF dX6_ledger_7 ⟨Nat.le_of_ble_eq_true rfl, Nat.le_of_ble_eq_true rfl⟩ (by first | rfl | omega | simp_all)
set_option maxHeartbeats 4000000 in
set_option maxRecDepth 100000 in
theorem c_X6_reader {l : Launch} {Δ : zDl} {ad : zK → Nat} {P : zP} {S : zS} {X : zMem} {g p : Int} (hP : zWP P) (hg : 0 ≤ g ∧ g < P 3 0 0) (hp : 0 ≤ p ∧ p < P 1 (P 4 g 0) 0) (hW : zWS P S) : zMn l Δ yX6_reader cX6_reader 3 (some .int) 9 0 0 [.ref (ad (0, 0, 0, 0)), .int (zI g), .int (zI p)] ad (mm Δ ad P S X) (zD (some (.int (zI (S (18, g, p, 0) 4)))) ad (mm Δ ad P S X)) := by
  refine zMn_of (by decide) (Nat.le_of_ble_eq_true rfl) (fun Γ hl hΔ hF => ?_)
  subst hl hΔ
  show G Γ _ _ _ RX6 _ _ _ _ _ [(0, .ref (ad (0, 0, 0, 0))), (1, .int (zI g)), (2, .int (zI p))] []
  have hS := hW.R
  have hN := hP.n
  have hk := hW.k
  have hl := hW.l
  have hG := hP.g hg
  have hT := hP.t hG
  have hM := hP.m hG hp
  have hW5 := hW.m hg hp
  refine G_aload_n (pc := 0) 0 0 dX6_reader_0 rfl rfl ?_
  refine G_iload_n (pc := 1) 1 1 dX6_reader_1 rfl rfl ?_
  refine G_iload_n (pc := 2) 2 2 dX6_reader_2 rfl rfl ?_
  refine G_callVd (pc := 3) gk_X6_217 dX6_reader_3 mg_0 rfl (c_X6_progressAt (by first | assumption | omega | exact ⟨by omega, by omega⟩ | exact hS _ _ | exact hT _ _) (by first | assumption | omega | exact ⟨by omega, by omega⟩ | exact hS _ _ | exact hT _ _) (by first | assumption | omega | exact ⟨by omega, by omega⟩ | exact hS _ _ | exact hT _ _)) rfl rfl (Nat.le_of_ble_eq_true rfl) ⟨⟨Nat.le_of_ble_eq_true rfl, Nat.le_of_ble_eq_true rfl⟩, Nat.le_of_ble_eq_true rfl, Nat.le_of_ble_eq_true rfl⟩ ?_
  refine G_getf (pc := 6) fl_X6_245 dX6_reader_6 (mg_18 (by first | assumption | omega | exact ⟨by omega, by omega⟩ | exact hS _ _ | exact hT _ _)) rfl ?_
  exact G_iret_d (pc := 9) hF dX6_reader_9 ⟨Nat.le_of_ble_eq_true rfl, Nat.le_of_ble_eq_true rfl⟩ (by first | rfl | omega | simp_all)
set_option maxHeartbeats 4000000 in
set_option maxRecDepth 100000 in
theorem c_X6_reader_x {l : Launch} {Δ : zDl} {ad : zK → Nat} {P : zP} {S : zS} {X : zMem} {g p : Int} (hP : zWP P) (hW : zWS P S) (hr : zR g) (hq : zR p) (hn : ¬ ((0 ≤ g ∧ g < P 3 0 0) ∧ (0 ≤ p ∧ p < P 1 (P 4 g 0) 0))) (hst : l.stackTraces = false) : zMx l Δ yX6_reader cX6_reader 3 (some .int) 9 1 6 [.ref (ad (0, 0, 0, 0)), .int (zI g), .int (zI p)] ad (mm Δ ad P S X) zF0 (zE "java/lang/IndexOutOfBoundsException" ad (mm Δ ad P S X)) := by
  refine zMx_of hst (by decide) (Nat.le_of_ble_eq_true rfl) (fun Γ hl hΔ hF hX => ?_)
  subst hl hΔ
  show G Γ _ _ _ RX6 _ _ _ _ _ [(0, .ref (ad (0, 0, 0, 0))), (1, .int (zI g)), (2, .int (zI p))] []
  refine G_aload_n (pc := 0) 0 0 dX6_reader_0 rfl rfl ?_
  refine G_iload_n (pc := 1) 1 1 dX6_reader_1 rfl rfl ?_
  refine G_iload_n (pc := 2) 2 2 dX6_reader_2 rfl rfl ?_
  exact G_callVt (pc := 3) gk_X6_217 dX6_reader_3 mg_0 rfl (c_X6_progressAt_x (by first | assumption | omega | exact ⟨by omega, by omega⟩ | exact hS _ _ | exact hT _ _) (by first | assumption | omega | exact ⟨by omega, by omega⟩ | exact hS _ _ | exact hT _ _) (by first | assumption | omega | exact ⟨by omega, by omega⟩ | exact hS _ _ | exact hT _ _) (by first | assumption | omega | exact ⟨by omega, by omega⟩ | exact hS _ _ | exact hT _ _) hst) rfl rfl (Nat.le_of_ble_eq_true rfl) ⟨⟨Nat.le_of_ble_eq_true rfl, Nat.le_of_ble_eq_true rfl⟩, Nat.le_of_ble_eq_true rfl, Nat.le_of_ble_eq_true rfl⟩ hX ⟨Nat.le_of_ble_eq_true rfl, Nat.le_of_ble_eq_true rfl⟩ ⟨rfl, rfl, rfl⟩
set_option maxHeartbeats 4000000 in
set_option maxRecDepth 100000 in
theorem c_X6_mark {l : Launch} {Δ : zDl} {ad : zK → Nat} {P : zP} {S : zS} {X : zMem} {g p : Int} (hP : zWP P) (hg : 0 ≤ g ∧ g < P 3 0 0) (hp : 0 ≤ p ∧ p < P 1 (P 4 g 0) 0) (hW : zWS P S) : zMn l Δ yX6_mark cX6_mark 3 (some .int) 9 0 0 [.ref (ad (0, 0, 0, 0)), .int (zI g), .int (zI p)] ad (mm Δ ad P S X) (zD (some (.int (zI (S (18, g, p, 0) 5)))) ad (mm Δ ad P S X)) := by
  refine zMn_of (by decide) (Nat.le_of_ble_eq_true rfl) (fun Γ hl hΔ hF => ?_)
  subst hl hΔ
  show G Γ _ _ _ RX6 _ _ _ _ _ [(0, .ref (ad (0, 0, 0, 0))), (1, .int (zI g)), (2, .int (zI p))] []
  have hS := hW.R
  have hN := hP.n
  have hk := hW.k
  have hl := hW.l
  have hG := hP.g hg
  have hT := hP.t hG
  have hM := hP.m hG hp
  have hW5 := hW.m hg hp
  refine G_aload_n (pc := 0) 0 0 dX6_mark_0 rfl rfl ?_
  refine G_iload_n (pc := 1) 1 1 dX6_mark_1 rfl rfl ?_
  refine G_iload_n (pc := 2) 2 2 dX6_mark_2 rfl rfl ?_
  refine G_callVd (pc := 3) gk_X6_217 dX6_mark_3 mg_0 rfl (c_X6_progressAt (by first | assumption | omega | exact ⟨by omega, by omega⟩ | exact hS _ _ | exact hT _ _) (by first | assumption | omega | exact ⟨by omega, by omega⟩ | exact hS _ _ | exact hT _ _) (by first | assumption | omega | exact ⟨by omega, by omega⟩ | exact hS _ _ | exact hT _ _)) rfl rfl (Nat.le_of_ble_eq_true rfl) ⟨⟨Nat.le_of_ble_eq_true rfl, Nat.le_of_ble_eq_true rfl⟩, Nat.le_of_ble_eq_true rfl, Nat.le_of_ble_eq_true rfl⟩ ?_
  refine G_getf (pc := 6) fl_X6_229 dX6_mark_6 (mg_18 (by first | assumption | omega | exact ⟨by omega, by omega⟩ | exact hS _ _ | exact hT _ _)) rfl ?_
  exact G_iret_d (pc := 9) hF dX6_mark_9 ⟨Nat.le_of_ble_eq_true rfl, Nat.le_of_ble_eq_true rfl⟩ (by first | rfl | omega | simp_all)
set_option maxHeartbeats 4000000 in
set_option maxRecDepth 100000 in
theorem c_X6_mark_x {l : Launch} {Δ : zDl} {ad : zK → Nat} {P : zP} {S : zS} {X : zMem} {g p : Int} (hP : zWP P) (hW : zWS P S) (hr : zR g) (hq : zR p) (hn : ¬ ((0 ≤ g ∧ g < P 3 0 0) ∧ (0 ≤ p ∧ p < P 1 (P 4 g 0) 0))) (hst : l.stackTraces = false) : zMx l Δ yX6_mark cX6_mark 3 (some .int) 9 1 6 [.ref (ad (0, 0, 0, 0)), .int (zI g), .int (zI p)] ad (mm Δ ad P S X) zF0 (zE "java/lang/IndexOutOfBoundsException" ad (mm Δ ad P S X)) := by
  refine zMx_of hst (by decide) (Nat.le_of_ble_eq_true rfl) (fun Γ hl hΔ hF hX => ?_)
  subst hl hΔ
  show G Γ _ _ _ RX6 _ _ _ _ _ [(0, .ref (ad (0, 0, 0, 0))), (1, .int (zI g)), (2, .int (zI p))] []
  refine G_aload_n (pc := 0) 0 0 dX6_mark_0 rfl rfl ?_
  refine G_iload_n (pc := 1) 1 1 dX6_mark_1 rfl rfl ?_
  refine G_iload_n (pc := 2) 2 2 dX6_mark_2 rfl rfl ?_
  exact G_callVt (pc := 3) gk_X6_217 dX6_mark_3 mg_0 rfl (c_X6_progressAt_x (by first | assumption | omega | exact ⟨by omega, by omega⟩ | exact hS _ _ | exact hT _ _) (by first | assumption | omega | exact ⟨by omega, by omega⟩ | exact hS _ _ | exact hT _ _) (by first | assumption | omega | exact ⟨by omega, by omega⟩ | exact hS _ _ | exact hT _ _) (by first | assumption | omega | exact ⟨by omega, by omega⟩ | exact hS _ _ | exact hT _ _) hst) rfl rfl (Nat.le_of_ble_eq_true rfl) ⟨⟨Nat.le_of_ble_eq_true rfl, Nat.le_of_ble_eq_true rfl⟩, Nat.le_of_ble_eq_true rfl, Nat.le_of_ble_eq_true rfl⟩ hX ⟨Nat.le_of_ble_eq_true rfl, Nat.le_of_ble_eq_true rfl⟩ ⟨rfl, rfl, rfl⟩
set_option maxHeartbeats 4000000 in
set_option maxRecDepth 100000 in
theorem c_X6_cursor {l : Launch} {Δ : zDl} {ad : zK → Nat} {P : zP} {S : zS} {X : zMem} {g p : Int} (hP : zWP P) (hg : 0 ≤ g ∧ g < P 3 0 0) (hp : 0 ≤ p ∧ p < P 1 (P 4 g 0) 0) (hW : zWS P S) : zMn l Δ yX6_cursor cX6_cursor 3 (some .int) 9 0 0 [.ref (ad (0, 0, 0, 0)), .int (zI g), .int (zI p)] ad (mm Δ ad P S X) (zD (some (.int (zI (S (18, g, p, 0) 6)))) ad (mm Δ ad P S X)) := by
  refine zMn_of (by decide) (Nat.le_of_ble_eq_true rfl) (fun Γ hl hΔ hF => ?_)
  subst hl hΔ
  show G Γ _ _ _ RX6 _ _ _ _ _ [(0, .ref (ad (0, 0, 0, 0))), (1, .int (zI g)), (2, .int (zI p))] []
  have hS := hW.R
  have hN := hP.n
  have hk := hW.k
  have hl := hW.l
  have hG := hP.g hg
  have hT := hP.t hG
  have hM := hP.m hG hp
  have hW5 := hW.m hg hp
  refine G_aload_n (pc := 0) 0 0 dX6_cursor_0 rfl rfl ?_
  refine G_iload_n (pc := 1) 1 1 dX6_cursor_1 rfl rfl ?_
  refine G_iload_n (pc := 2) 2 2 dX6_cursor_2 rfl rfl ?_
  refine G_callVd (pc := 3) gk_X6_217 dX6_cursor_3 mg_0 rfl (c_X6_progressAt (by first | assumption | omega | exact ⟨by omega, by omega⟩ | exact hS _ _ | exact hT _ _) (by first | assumption | omega | exact ⟨by omega, by omega⟩ | exact hS _ _ | exact hT _ _) (by first | assumption | omega | exact ⟨by omega, by omega⟩ | exact hS _ _ | exact hT _ _)) rfl rfl (Nat.le_of_ble_eq_true rfl) ⟨⟨Nat.le_of_ble_eq_true rfl, Nat.le_of_ble_eq_true rfl⟩, Nat.le_of_ble_eq_true rfl, Nat.le_of_ble_eq_true rfl⟩ ?_
  refine G_getf (pc := 6) fl_X6_248 dX6_cursor_6 (mg_18 (by first | assumption | omega | exact ⟨by omega, by omega⟩ | exact hS _ _ | exact hT _ _)) rfl ?_
  exact G_iret_d (pc := 9) hF dX6_cursor_9 ⟨Nat.le_of_ble_eq_true rfl, Nat.le_of_ble_eq_true rfl⟩ (by first | rfl | omega | simp_all)
set_option maxHeartbeats 4000000 in
set_option maxRecDepth 100000 in
theorem c_X6_cursor_x {l : Launch} {Δ : zDl} {ad : zK → Nat} {P : zP} {S : zS} {X : zMem} {g p : Int} (hP : zWP P) (hW : zWS P S) (hr : zR g) (hq : zR p) (hn : ¬ ((0 ≤ g ∧ g < P 3 0 0) ∧ (0 ≤ p ∧ p < P 1 (P 4 g 0) 0))) (hst : l.stackTraces = false) : zMx l Δ yX6_cursor cX6_cursor 3 (some .int) 9 1 6 [.ref (ad (0, 0, 0, 0)), .int (zI g), .int (zI p)] ad (mm Δ ad P S X) zF0 (zE "java/lang/IndexOutOfBoundsException" ad (mm Δ ad P S X)) := by
  refine zMx_of hst (by decide) (Nat.le_of_ble_eq_true rfl) (fun Γ hl hΔ hF hX => ?_)
  subst hl hΔ
  show G Γ _ _ _ RX6 _ _ _ _ _ [(0, .ref (ad (0, 0, 0, 0))), (1, .int (zI g)), (2, .int (zI p))] []
  refine G_aload_n (pc := 0) 0 0 dX6_cursor_0 rfl rfl ?_
  refine G_iload_n (pc := 1) 1 1 dX6_cursor_1 rfl rfl ?_
  refine G_iload_n (pc := 2) 2 2 dX6_cursor_2 rfl rfl ?_
  exact G_callVt (pc := 3) gk_X6_217 dX6_cursor_3 mg_0 rfl (c_X6_progressAt_x (by first | assumption | omega | exact ⟨by omega, by omega⟩ | exact hS _ _ | exact hT _ _) (by first | assumption | omega | exact ⟨by omega, by omega⟩ | exact hS _ _ | exact hT _ _) (by first | assumption | omega | exact ⟨by omega, by omega⟩ | exact hS _ _ | exact hT _ _) (by first | assumption | omega | exact ⟨by omega, by omega⟩ | exact hS _ _ | exact hT _ _) hst) rfl rfl (Nat.le_of_ble_eq_true rfl) ⟨⟨Nat.le_of_ble_eq_true rfl, Nat.le_of_ble_eq_true rfl⟩, Nat.le_of_ble_eq_true rfl, Nat.le_of_ble_eq_true rfl⟩ hX ⟨Nat.le_of_ble_eq_true rfl, Nat.le_of_ble_eq_true rfl⟩ ⟨rfl, rfl, rfl⟩
set_option maxHeartbeats 4000000 in
set_option maxRecDepth 100000 in
theorem c_X6_lag {l : Launch} {Δ : zDl} {ad : zK → Nat} {P : zP} {S : zS} {X : zMem} {g p : Int} (hP : zWP P) (hg : 0 ≤ g ∧ g < P 3 0 0) (hp : 0 ≤ p ∧ p < P 1 (P 4 g 0) 0) (hW : zWS P S) : zMn l Δ yX6_lag cX6_lag 3 (some .int) 9 0 0 [.ref (ad (0, 0, 0, 0)), .int (zI g), .int (zI p)] ad (mm Δ ad P S X) (zD (some (.int (zI (sm (fun o => if zkp S (P 4 g 0) p o ∧ ¬ jt S g p o then 1 else 0) (S (18, g, p, 0) 5) (zse P S (P 4 g 0) p))))) ad (mm Δ ad P S X)) := by
  refine zMn_of (by decide) (Nat.le_of_ble_eq_true rfl) (fun Γ hl hΔ hF => ?_)
  subst hl hΔ
  show G Γ _ _ _ RX6 _ _ _ _ _ [(0, .ref (ad (0, 0, 0, 0))), (1, .int (zI g)), (2, .int (zI p))] []
  have hS := hW.R
  have hN := hP.n
  have hk := hW.k
  have hl := hW.l
  have hG := hP.g hg
  have hT := hP.t hG
  have hM := hP.m hG hp
  have hW5 := hW.m hg hp
  refine G_aload_n (pc := 0) 0 0 dX6_lag_0 rfl rfl ?_
  refine G_iload_n (pc := 1) 1 1 dX6_lag_1 rfl rfl ?_
  refine G_iload_n (pc := 2) 2 2 dX6_lag_2 rfl rfl ?_
  refine G_callVd (pc := 3) gk_X6_217 dX6_lag_3 mg_0 rfl (c_X6_progressAt (by first | assumption | omega | exact ⟨by omega, by omega⟩ | exact hS _ _ | exact hT _ _) (by first | assumption | omega | exact ⟨by omega, by omega⟩ | exact hS _ _ | exact hT _ _) (by first | assumption | omega | exact ⟨by omega, by omega⟩ | exact hS _ _ | exact hT _ _)) rfl rfl (Nat.le_of_ble_eq_true rfl) ⟨⟨Nat.le_of_ble_eq_true rfl, Nat.le_of_ble_eq_true rfl⟩, Nat.le_of_ble_eq_true rfl, Nat.le_of_ble_eq_true rfl⟩ ?_
  refine G_callVd (pc := 6) gk_X6_257 dX6_lag_6 (mg_18 (by first | assumption | omega | exact ⟨by omega, by omega⟩ | exact hS _ _ | exact hT _ _)) rfl (c_X4_countUnread (by first | assumption | omega | exact ⟨by omega, by omega⟩ | exact hS _ _ | exact hT _ _) (by first | assumption | omega | exact ⟨by omega, by omega⟩ | exact hS _ _ | exact hT _ _) (by first | assumption | omega | exact ⟨by omega, by omega⟩ | exact hS _ _ | exact hT _ _) (by first | assumption | omega | exact ⟨by omega, by omega⟩ | exact hS _ _ | exact hT _ _)) rfl rfl (Nat.le_of_ble_eq_true rfl) ⟨⟨Nat.le_of_ble_eq_true rfl, Nat.le_of_ble_eq_true rfl⟩, Nat.le_of_ble_eq_true rfl, Nat.le_of_ble_eq_true rfl⟩ ?_
  exact G_iret_d (pc := 9) hF dX6_lag_9 ⟨Nat.le_of_ble_eq_true rfl, Nat.le_of_ble_eq_true rfl⟩ (by first | rfl | omega | simp_all)
set_option maxHeartbeats 4000000 in
set_option maxRecDepth 100000 in
theorem c_X6_lag_x {l : Launch} {Δ : zDl} {ad : zK → Nat} {P : zP} {S : zS} {X : zMem} {g p : Int} (hP : zWP P) (hW : zWS P S) (hr : zR g) (hq : zR p) (hn : ¬ ((0 ≤ g ∧ g < P 3 0 0) ∧ (0 ≤ p ∧ p < P 1 (P 4 g 0) 0))) (hst : l.stackTraces = false) : zMx l Δ yX6_lag cX6_lag 3 (some .int) 9 1 6 [.ref (ad (0, 0, 0, 0)), .int (zI g), .int (zI p)] ad (mm Δ ad P S X) zF0 (zE "java/lang/IndexOutOfBoundsException" ad (mm Δ ad P S X)) := by
  refine zMx_of hst (by decide) (Nat.le_of_ble_eq_true rfl) (fun Γ hl hΔ hF hX => ?_)
  subst hl hΔ
  show G Γ _ _ _ RX6 _ _ _ _ _ [(0, .ref (ad (0, 0, 0, 0))), (1, .int (zI g)), (2, .int (zI p))] []
  refine G_aload_n (pc := 0) 0 0 dX6_lag_0 rfl rfl ?_
  refine G_iload_n (pc := 1) 1 1 dX6_lag_1 rfl rfl ?_
  refine G_iload_n (pc := 2) 2 2 dX6_lag_2 rfl rfl ?_
  exact G_callVt (pc := 3) gk_X6_217 dX6_lag_3 mg_0 rfl (c_X6_progressAt_x (by first | assumption | omega | exact ⟨by omega, by omega⟩ | exact hS _ _ | exact hT _ _) (by first | assumption | omega | exact ⟨by omega, by omega⟩ | exact hS _ _ | exact hT _ _) (by first | assumption | omega | exact ⟨by omega, by omega⟩ | exact hS _ _ | exact hT _ _) (by first | assumption | omega | exact ⟨by omega, by omega⟩ | exact hS _ _ | exact hT _ _) hst) rfl rfl (Nat.le_of_ble_eq_true rfl) ⟨⟨Nat.le_of_ble_eq_true rfl, Nat.le_of_ble_eq_true rfl⟩, Nat.le_of_ble_eq_true rfl, Nat.le_of_ble_eq_true rfl⟩ hX ⟨Nat.le_of_ble_eq_true rfl, Nat.le_of_ble_eq_true rfl⟩ ⟨rfl, rfl, rfl⟩
set_option maxHeartbeats 4000000 in
set_option maxRecDepth 100000 in
theorem c_X6_state {l : Launch} {Δ : zDl} {ad : zK → Nat} {P : zP} {S : zS} {X : zMem} {g p o : Int} (hP : zWP P) (hg : 0 ≤ g ∧ g < P 3 0 0) (hp : 0 ≤ p ∧ p < P 1 (P 4 g 0) 0) (ho : 0 ≤ o ∧ o < P 2 (P 4 g 0) p) (hW : zWS P S) : zMn l Δ yX6_state cX6_state 5 (some .int) 9 0 0 [.ref (ad (0, 0, 0, 0)), .int (zI g), .int (zI p), .int (zI o)] ad (mm Δ ad P S X) (zD (some (.int (zI (S (19, g, p, 0) o)))) ad (mm Δ ad P S X)) := by
  refine zMn_of (by decide) (Nat.le_of_ble_eq_true rfl) (fun Γ hl hΔ hF => ?_)
  subst hl hΔ
  show G Γ _ _ _ RX6 _ _ _ _ _ [(0, .ref (ad (0, 0, 0, 0))), (1, .int (zI g)), (2, .int (zI p)), (3, .int (zI o))] []
  have hS := hW.R
  have hN := hP.n
  have hk := hW.k
  have hl := hW.l
  have hG := hP.g hg
  have hT := hP.t hG
  have hM := hP.m hG hp
  have hW5 := hW.m hg hp
  refine G_aload_n (pc := 0) 0 0 dX6_state_0 rfl rfl ?_
  refine G_iload_n (pc := 1) 1 1 dX6_state_1 rfl rfl ?_
  refine G_iload_n (pc := 2) 2 2 dX6_state_2 rfl rfl ?_
  refine G_callVd (pc := 3) gk_X6_217 dX6_state_3 mg_0 rfl (c_X6_progressAt (by first | assumption | omega | exact ⟨by omega, by omega⟩ | exact hS _ _ | exact hT _ _) (by first | assumption | omega | exact ⟨by omega, by omega⟩ | exact hS _ _ | exact hT _ _) (by first | assumption | omega | exact ⟨by omega, by omega⟩ | exact hS _ _ | exact hT _ _)) rfl rfl (Nat.le_of_ble_eq_true rfl) ⟨⟨Nat.le_of_ble_eq_true rfl, Nat.le_of_ble_eq_true rfl⟩, Nat.le_of_ble_eq_true rfl, Nat.le_of_ble_eq_true rfl⟩ ?_
  refine G_astore (pc := 6) [(4, .ref (ad (18, g, p, 0))), (0, .ref (ad (0, 0, 0, 0))), (1, .int (zI g)), (2, .int (zI p)), (3, .int (zI o))] dX6_state_6 (by decide) rfl ?_
  refine G_aload (pc := 8) 0 dX6_state_8 rfl ?_
  refine G_getf (pc := 10) fl_X6_236 dX6_state_10 (mg_18 (by first | assumption | omega | exact ⟨by omega, by omega⟩ | exact hS _ _ | exact hT _ _)) rfl ?_
  refine G_iload_n (pc := 13) 3 4 dX6_state_13 rfl rfl ?_
  refine G_callSv (pc := 14) gk_X6_160 dX6_state_14 (c_X6_refuseOtherOffsets (by first | assumption | omega | exact ⟨by omega, by omega⟩ | exact hS _ _ | exact hT _ _) (by first | assumption | omega | exact ⟨by omega, by omega⟩ | exact hS _ _ | exact hT _ _) (by first | assumption | omega | exact ⟨by omega, by omega⟩ | exact hS _ _ | exact hT _ _) (by first | assumption | omega | exact ⟨by omega, by omega⟩ | exact hS _ _ | exact hT _ _)) rfl rfl (Nat.le_of_ble_eq_true rfl) ⟨⟨Nat.le_of_ble_eq_true rfl, Nat.le_of_ble_eq_true rfl⟩, Nat.le_of_ble_eq_true rfl, Nat.le_of_ble_eq_true rfl⟩ ?_
  refine G_aload (pc := 17) 0 dX6_state_17 rfl ?_
  refine G_getf (pc := 19) fl_X6_251 dX6_state_19 (mg_18 (by first | assumption | omega | exact ⟨by omega, by omega⟩ | exact hS _ _ | exact hT _ _)) rfl ?_
  refine G_iload_n (pc := 22) 3 4 dX6_state_22 rfl rfl ?_
  refine G_iald (pc := 23) dX6_state_23 (mg_19 (by first | assumption | omega | exact ⟨by omega, by omega⟩ | exact hS _ _ | exact hT _ _)) ⟨by omega, by omega, by omega, by omega⟩ ?_
  exact G_iret_d (pc := 24) hF dX6_state_24 ⟨Nat.le_of_ble_eq_true rfl, Nat.le_of_ble_eq_true rfl⟩ (by first | rfl | omega | simp_all)
set_option maxHeartbeats 4000000 in
set_option maxRecDepth 100000 in
theorem c_X6_state_xa {l : Launch} {Δ : zDl} {ad : zK → Nat} {P : zP} {S : zS} {X : zMem} {g p o : Int} (hP : zWP P) (hW : zWS P S) (hr : zR g) (hq : zR p) (hn : ¬ ((0 ≤ g ∧ g < P 3 0 0) ∧ (0 ≤ p ∧ p < P 1 (P 4 g 0) 0))) (hst : l.stackTraces = false) : zMx l Δ yX6_state cX6_state 5 (some .int) 9 1 6 [.ref (ad (0, 0, 0, 0)), .int (zI g), .int (zI p), .int (zI o)] ad (mm Δ ad P S X) zF0 (zE "java/lang/IndexOutOfBoundsException" ad (mm Δ ad P S X)) := by
  refine zMx_of hst (by decide) (Nat.le_of_ble_eq_true rfl) (fun Γ hl hΔ hF hX => ?_)
  subst hl hΔ
  show G Γ _ _ _ RX6 _ _ _ _ _ [(0, .ref (ad (0, 0, 0, 0))), (1, .int (zI g)), (2, .int (zI p)), (3, .int (zI o))] []
  refine G_aload_n (pc := 0) 0 0 dX6_state_0 rfl rfl ?_
  refine G_iload_n (pc := 1) 1 1 dX6_state_1 rfl rfl ?_
  refine G_iload_n (pc := 2) 2 2 dX6_state_2 rfl rfl ?_
  exact G_callVt (pc := 3) gk_X6_217 dX6_state_3 mg_0 rfl (c_X6_progressAt_x (by first | assumption | omega | exact ⟨by omega, by omega⟩ | exact hS _ _ | exact hT _ _) (by first | assumption | omega | exact ⟨by omega, by omega⟩ | exact hS _ _ | exact hT _ _) (by first | assumption | omega | exact ⟨by omega, by omega⟩ | exact hS _ _ | exact hT _ _) (by first | assumption | omega | exact ⟨by omega, by omega⟩ | exact hS _ _ | exact hT _ _) hst) rfl rfl (Nat.le_of_ble_eq_true rfl) ⟨⟨Nat.le_of_ble_eq_true rfl, Nat.le_of_ble_eq_true rfl⟩, Nat.le_of_ble_eq_true rfl, Nat.le_of_ble_eq_true rfl⟩ hX ⟨Nat.le_of_ble_eq_true rfl, Nat.le_of_ble_eq_true rfl⟩ ⟨rfl, rfl, rfl⟩
set_option maxHeartbeats 4000000 in
set_option maxRecDepth 100000 in
theorem c_X6_state_xb {l : Launch} {Δ : zDl} {ad : zK → Nat} {P : zP} {S : zS} {X : zMem} {g p o : Int} (hP : zWP P) (hg : 0 ≤ g ∧ g < P 3 0 0) (hp : 0 ≤ p ∧ p < P 1 (P 4 g 0) 0) (hW : zWS P S) (hr : zR o) (hn : ¬ (0 ≤ o ∧ o < P 2 (P 4 g 0) p)) (hst : l.stackTraces = false) : zMx l Δ yX6_state cX6_state 5 (some .int) 9 1 6 [.ref (ad (0, 0, 0, 0)), .int (zI g), .int (zI p), .int (zI o)] ad (mm Δ ad P S X) zF0 (zE "java/lang/IndexOutOfBoundsException" ad (mm Δ ad P S X)) := by
  refine zMx_of hst (by decide) (Nat.le_of_ble_eq_true rfl) (fun Γ hl hΔ hF hX => ?_)
  subst hl hΔ
  show G Γ _ _ _ RX6 _ _ _ _ _ [(0, .ref (ad (0, 0, 0, 0))), (1, .int (zI g)), (2, .int (zI p)), (3, .int (zI o))] []
  have hS := hW.R
  have hN := hP.n
  have hk := hW.k
  have hl := hW.l
  have hG := hP.g hg
  have hT := hP.t hG
  have hM := hP.m hG hp
  have hW5 := hW.m hg hp
  refine G_aload_n (pc := 0) 0 0 dX6_state_0 rfl rfl ?_
  refine G_iload_n (pc := 1) 1 1 dX6_state_1 rfl rfl ?_
  refine G_iload_n (pc := 2) 2 2 dX6_state_2 rfl rfl ?_
  refine G_callVd (pc := 3) gk_X6_217 dX6_state_3 mg_0 rfl (c_X6_progressAt (by first | assumption | omega | exact ⟨by omega, by omega⟩ | exact hS _ _ | exact hT _ _) (by first | assumption | omega | exact ⟨by omega, by omega⟩ | exact hS _ _ | exact hT _ _) (by first | assumption | omega | exact ⟨by omega, by omega⟩ | exact hS _ _ | exact hT _ _)) rfl rfl (Nat.le_of_ble_eq_true rfl) ⟨⟨Nat.le_of_ble_eq_true rfl, Nat.le_of_ble_eq_true rfl⟩, Nat.le_of_ble_eq_true rfl, Nat.le_of_ble_eq_true rfl⟩ ?_
  refine G_astore (pc := 6) [(4, .ref (ad (18, g, p, 0))), (0, .ref (ad (0, 0, 0, 0))), (1, .int (zI g)), (2, .int (zI p)), (3, .int (zI o))] dX6_state_6 (by decide) rfl ?_
  refine G_aload (pc := 8) 0 dX6_state_8 rfl ?_
  refine G_getf (pc := 10) fl_X6_236 dX6_state_10 (mg_18 (by first | assumption | omega | exact ⟨by omega, by omega⟩ | exact hS _ _ | exact hT _ _)) rfl ?_
  refine G_iload_n (pc := 13) 3 4 dX6_state_13 rfl rfl ?_
  exact G_callSt (pc := 14) gk_X6_160 dX6_state_14 (c_X6_refuseOtherOffsets_x (by first | assumption | omega | exact ⟨by omega, by omega⟩ | exact hS _ _ | exact hT _ _) (by first | assumption | omega | exact ⟨by omega, by omega⟩ | exact hS _ _ | exact hT _ _) (by first | assumption | omega | exact ⟨by omega, by omega⟩ | exact hS _ _ | exact hT _ _) (by first | assumption | omega | exact ⟨by omega, by omega⟩ | exact hS _ _ | exact hT _ _) (by first | assumption | omega | exact ⟨by omega, by omega⟩ | exact hS _ _ | exact hT _ _) hst) rfl rfl (Nat.le_of_ble_eq_true rfl) ⟨⟨Nat.le_of_ble_eq_true rfl, Nat.le_of_ble_eq_true rfl⟩, Nat.le_of_ble_eq_true rfl, Nat.le_of_ble_eq_true rfl⟩ hX ⟨Nat.le_of_ble_eq_true rfl, Nat.le_of_ble_eq_true rfl⟩ ⟨rfl, rfl, rfl⟩
set_option maxHeartbeats 4000000 in
set_option maxRecDepth 100000 in
theorem c_X6_state_x {l : Launch} {Δ : zDl} {ad : zK → Nat} {P : zP} {S : zS} {X : zMem} {g p o : Int} (hP : zWP P) (hW : zWS P S) (hr : zR g) (hq : zR p) (ho : zR o) (hn : ¬ (((0 ≤ g ∧ g < P 3 0 0) ∧ (0 ≤ p ∧ p < P 1 (P 4 g 0) 0)) ∧ (0 ≤ o ∧ o < P 2 (P 4 g 0) p))) (hst : l.stackTraces = false) : zMx l Δ yX6_state cX6_state 5 (some .int) 9 1 6 [.ref (ad (0, 0, 0, 0)), .int (zI g), .int (zI p), .int (zI o)] ad (mm Δ ad P S X) zF0 (zE "java/lang/IndexOutOfBoundsException" ad (mm Δ ad P S X)) := by
  by_cases h : (0 ≤ g ∧ g < P 3 0 0) ∧ (0 ≤ p ∧ p < P 1 (P 4 g 0) 0)
  · exact c_X6_state_xb hP h.1 h.2 hW ho (fun q => hn ⟨h, q⟩) hst
  · exact c_X6_state_xa hP hW hr hq h hst
set_option maxHeartbeats 4000000 in
set_option maxRecDepth 100000 in
theorem c_X6_tries {l : Launch} {Δ : zDl} {ad : zK → Nat} {P : zP} {S : zS} {X : zMem} {g p o : Int} (hP : zWP P) (hg : 0 ≤ g ∧ g < P 3 0 0) (hp : 0 ≤ p ∧ p < P 1 (P 4 g 0) 0) (ho : 0 ≤ o ∧ o < P 2 (P 4 g 0) p) (hW : zWS P S) : zMn l Δ yX6_tries cX6_tries 5 (some .int) 9 0 0 [.ref (ad (0, 0, 0, 0)), .int (zI g), .int (zI p), .int (zI o)] ad (mm Δ ad P S X) (zD (some (.int (zI (S (20, g, p, 0) o)))) ad (mm Δ ad P S X)) := by
  refine zMn_of (by decide) (Nat.le_of_ble_eq_true rfl) (fun Γ hl hΔ hF => ?_)
  subst hl hΔ
  show G Γ _ _ _ RX6 _ _ _ _ _ [(0, .ref (ad (0, 0, 0, 0))), (1, .int (zI g)), (2, .int (zI p)), (3, .int (zI o))] []
  have hS := hW.R
  have hN := hP.n
  have hk := hW.k
  have hl := hW.l
  have hG := hP.g hg
  have hT := hP.t hG
  have hM := hP.m hG hp
  have hW5 := hW.m hg hp
  refine G_aload_n (pc := 0) 0 0 dX6_tries_0 rfl rfl ?_
  refine G_iload_n (pc := 1) 1 1 dX6_tries_1 rfl rfl ?_
  refine G_iload_n (pc := 2) 2 2 dX6_tries_2 rfl rfl ?_
  refine G_callVd (pc := 3) gk_X6_217 dX6_tries_3 mg_0 rfl (c_X6_progressAt (by first | assumption | omega | exact ⟨by omega, by omega⟩ | exact hS _ _ | exact hT _ _) (by first | assumption | omega | exact ⟨by omega, by omega⟩ | exact hS _ _ | exact hT _ _) (by first | assumption | omega | exact ⟨by omega, by omega⟩ | exact hS _ _ | exact hT _ _)) rfl rfl (Nat.le_of_ble_eq_true rfl) ⟨⟨Nat.le_of_ble_eq_true rfl, Nat.le_of_ble_eq_true rfl⟩, Nat.le_of_ble_eq_true rfl, Nat.le_of_ble_eq_true rfl⟩ ?_
  refine G_astore (pc := 6) [(4, .ref (ad (18, g, p, 0))), (0, .ref (ad (0, 0, 0, 0))), (1, .int (zI g)), (2, .int (zI p)), (3, .int (zI o))] dX6_tries_6 (by decide) rfl ?_
  refine G_aload (pc := 8) 0 dX6_tries_8 rfl ?_
  refine G_getf (pc := 10) fl_X6_236 dX6_tries_10 (mg_18 (by first | assumption | omega | exact ⟨by omega, by omega⟩ | exact hS _ _ | exact hT _ _)) rfl ?_
  refine G_iload_n (pc := 13) 3 4 dX6_tries_13 rfl rfl ?_
  refine G_callSv (pc := 14) gk_X6_160 dX6_tries_14 (c_X6_refuseOtherOffsets (by first | assumption | omega | exact ⟨by omega, by omega⟩ | exact hS _ _ | exact hT _ _) (by first | assumption | omega | exact ⟨by omega, by omega⟩ | exact hS _ _ | exact hT _ _) (by first | assumption | omega | exact ⟨by omega, by omega⟩ | exact hS _ _ | exact hT _ _) (by first | assumption | omega | exact ⟨by omega, by omega⟩ | exact hS _ _ | exact hT _ _)) rfl rfl (Nat.le_of_ble_eq_true rfl) ⟨⟨Nat.le_of_ble_eq_true rfl, Nat.le_of_ble_eq_true rfl⟩, Nat.le_of_ble_eq_true rfl, Nat.le_of_ble_eq_true rfl⟩ ?_
  refine G_aload (pc := 17) 0 dX6_tries_17 rfl ?_
  refine G_getf (pc := 19) fl_X6_254 dX6_tries_19 (mg_18 (by first | assumption | omega | exact ⟨by omega, by omega⟩ | exact hS _ _ | exact hT _ _)) rfl ?_
  refine G_iload_n (pc := 22) 3 4 dX6_tries_22 rfl rfl ?_
  refine G_iald (pc := 23) dX6_tries_23 (mg_20 (by first | assumption | omega | exact ⟨by omega, by omega⟩ | exact hS _ _ | exact hT _ _)) ⟨by omega, by omega, by omega, by omega⟩ ?_
  exact G_iret_d (pc := 24) hF dX6_tries_24 ⟨Nat.le_of_ble_eq_true rfl, Nat.le_of_ble_eq_true rfl⟩ (by first | rfl | omega | simp_all)
set_option maxHeartbeats 4000000 in
set_option maxRecDepth 100000 in
theorem c_X6_tries_xa {l : Launch} {Δ : zDl} {ad : zK → Nat} {P : zP} {S : zS} {X : zMem} {g p o : Int} (hP : zWP P) (hW : zWS P S) (hr : zR g) (hq : zR p) (hn : ¬ ((0 ≤ g ∧ g < P 3 0 0) ∧ (0 ≤ p ∧ p < P 1 (P 4 g 0) 0))) (hst : l.stackTraces = false) : zMx l Δ yX6_tries cX6_tries 5 (some .int) 9 1 6 [.ref (ad (0, 0, 0, 0)), .int (zI g), .int (zI p), .int (zI o)] ad (mm Δ ad P S X) zF0 (zE "java/lang/IndexOutOfBoundsException" ad (mm Δ ad P S X)) := by
  refine zMx_of hst (by decide) (Nat.le_of_ble_eq_true rfl) (fun Γ hl hΔ hF hX => ?_)
  subst hl hΔ
  show G Γ _ _ _ RX6 _ _ _ _ _ [(0, .ref (ad (0, 0, 0, 0))), (1, .int (zI g)), (2, .int (zI p)), (3, .int (zI o))] []
  refine G_aload_n (pc := 0) 0 0 dX6_tries_0 rfl rfl ?_
  refine G_iload_n (pc := 1) 1 1 dX6_tries_1 rfl rfl ?_
  refine G_iload_n (pc := 2) 2 2 dX6_tries_2 rfl rfl ?_
  exact G_callVt (pc := 3) gk_X6_217 dX6_tries_3 mg_0 rfl (c_X6_progressAt_x (by first | assumption | omega | exact ⟨by omega, by omega⟩ | exact hS _ _ | exact hT _ _) (by first | assumption | omega | exact ⟨by omega, by omega⟩ | exact hS _ _ | exact hT _ _) (by first | assumption | omega | exact ⟨by omega, by omega⟩ | exact hS _ _ | exact hT _ _) (by first | assumption | omega | exact ⟨by omega, by omega⟩ | exact hS _ _ | exact hT _ _) hst) rfl rfl (Nat.le_of_ble_eq_true rfl) ⟨⟨Nat.le_of_ble_eq_true rfl, Nat.le_of_ble_eq_true rfl⟩, Nat.le_of_ble_eq_true rfl, Nat.le_of_ble_eq_true rfl⟩ hX ⟨Nat.le_of_ble_eq_true rfl, Nat.le_of_ble_eq_true rfl⟩ ⟨rfl, rfl, rfl⟩
set_option maxHeartbeats 4000000 in
set_option maxRecDepth 100000 in
theorem c_X6_tries_xb {l : Launch} {Δ : zDl} {ad : zK → Nat} {P : zP} {S : zS} {X : zMem} {g p o : Int} (hP : zWP P) (hg : 0 ≤ g ∧ g < P 3 0 0) (hp : 0 ≤ p ∧ p < P 1 (P 4 g 0) 0) (hW : zWS P S) (hr : zR o) (hn : ¬ (0 ≤ o ∧ o < P 2 (P 4 g 0) p)) (hst : l.stackTraces = false) : zMx l Δ yX6_tries cX6_tries 5 (some .int) 9 1 6 [.ref (ad (0, 0, 0, 0)), .int (zI g), .int (zI p), .int (zI o)] ad (mm Δ ad P S X) zF0 (zE "java/lang/IndexOutOfBoundsException" ad (mm Δ ad P S X)) := by
  refine zMx_of hst (by decide) (Nat.le_of_ble_eq_true rfl) (fun Γ hl hΔ hF hX => ?_)
  subst hl hΔ
  show G Γ _ _ _ RX6 _ _ _ _ _ [(0, .ref (ad (0, 0, 0, 0))), (1, .int (zI g)), (2, .int (zI p)), (3, .int (zI o))] []
  have hS := hW.R
  have hN := hP.n
  have hk := hW.k
  have hl := hW.l
  have hG := hP.g hg
  have hT := hP.t hG
  have hM := hP.m hG hp
  have hW5 := hW.m hg hp
  refine G_aload_n (pc := 0) 0 0 dX6_tries_0 rfl rfl ?_
  refine G_iload_n (pc := 1) 1 1 dX6_tries_1 rfl rfl ?_
  refine G_iload_n (pc := 2) 2 2 dX6_tries_2 rfl rfl ?_
  refine G_callVd (pc := 3) gk_X6_217 dX6_tries_3 mg_0 rfl (c_X6_progressAt (by first | assumption | omega | exact ⟨by omega, by omega⟩ | exact hS _ _ | exact hT _ _) (by first | assumption | omega | exact ⟨by omega, by omega⟩ | exact hS _ _ | exact hT _ _) (by first | assumption | omega | exact ⟨by omega, by omega⟩ | exact hS _ _ | exact hT _ _)) rfl rfl (Nat.le_of_ble_eq_true rfl) ⟨⟨Nat.le_of_ble_eq_true rfl, Nat.le_of_ble_eq_true rfl⟩, Nat.le_of_ble_eq_true rfl, Nat.le_of_ble_eq_true rfl⟩ ?_
  refine G_astore (pc := 6) [(4, .ref (ad (18, g, p, 0))), (0, .ref (ad (0, 0, 0, 0))), (1, .int (zI g)), (2, .int (zI p)), (3, .int (zI o))] dX6_tries_6 (by decide) rfl ?_
  refine G_aload (pc := 8) 0 dX6_tries_8 rfl ?_
  refine G_getf (pc := 10) fl_X6_236 dX6_tries_10 (mg_18 (by first | assumption | omega | exact ⟨by omega, by omega⟩ | exact hS _ _ | exact hT _ _)) rfl ?_
  refine G_iload_n (pc := 13) 3 4 dX6_tries_13 rfl rfl ?_
  exact G_callSt (pc := 14) gk_X6_160 dX6_tries_14 (c_X6_refuseOtherOffsets_x (by first | assumption | omega | exact ⟨by omega, by omega⟩ | exact hS _ _ | exact hT _ _) (by first | assumption | omega | exact ⟨by omega, by omega⟩ | exact hS _ _ | exact hT _ _) (by first | assumption | omega | exact ⟨by omega, by omega⟩ | exact hS _ _ | exact hT _ _) (by first | assumption | omega | exact ⟨by omega, by omega⟩ | exact hS _ _ | exact hT _ _) (by first | assumption | omega | exact ⟨by omega, by omega⟩ | exact hS _ _ | exact hT _ _) hst) rfl rfl (Nat.le_of_ble_eq_true rfl) ⟨⟨Nat.le_of_ble_eq_true rfl, Nat.le_of_ble_eq_true rfl⟩, Nat.le_of_ble_eq_true rfl, Nat.le_of_ble_eq_true rfl⟩ hX ⟨Nat.le_of_ble_eq_true rfl, Nat.le_of_ble_eq_true rfl⟩ ⟨rfl, rfl, rfl⟩
set_option maxHeartbeats 4000000 in
set_option maxRecDepth 100000 in
theorem c_X6_tries_x {l : Launch} {Δ : zDl} {ad : zK → Nat} {P : zP} {S : zS} {X : zMem} {g p o : Int} (hP : zWP P) (hW : zWS P S) (hr : zR g) (hq : zR p) (ho : zR o) (hn : ¬ (((0 ≤ g ∧ g < P 3 0 0) ∧ (0 ≤ p ∧ p < P 1 (P 4 g 0) 0)) ∧ (0 ≤ o ∧ o < P 2 (P 4 g 0) p))) (hst : l.stackTraces = false) : zMx l Δ yX6_tries cX6_tries 5 (some .int) 9 1 6 [.ref (ad (0, 0, 0, 0)), .int (zI g), .int (zI p), .int (zI o)] ad (mm Δ ad P S X) zF0 (zE "java/lang/IndexOutOfBoundsException" ad (mm Δ ad P S X)) := by
  by_cases h : (0 ≤ g ∧ g < P 3 0 0) ∧ (0 ≤ p ∧ p < P 1 (P 4 g 0) 0)
  · exact c_X6_tries_xb hP h.1 h.2 hW ho (fun q => hn ⟨h, q⟩) hst
  · exact c_X6_tries_xa hP hW hr hq h hst
set_option maxHeartbeats 4000000 in
set_option maxRecDepth 100000 in
theorem c_X6_aside {l : Launch} {Δ : zDl} {ad : zK → Nat} {P : zP} {S : zS} {X : zMem} {g : Int} (hP : zWP P) (hg : 0 ≤ g ∧ g < P 3 0 0) (hW : zWS P S) : zMn l Δ yX6_aside cX6_aside 2 (some .int) 9 0 0 [.ref (ad (0, 0, 0, 0)), .int (zI g)] ad (mm Δ ad P S X) (zD (some (.int (zI (sm (fun p => zco P S g 4 p) 0 (P 1 (P 4 g 0) 0))))) ad (mm Δ ad P S X)) := by
  refine zMn_of (by decide) (Nat.le_of_ble_eq_true rfl) (fun Γ hl hΔ hF => ?_)
  subst hl hΔ
  show G Γ _ _ _ RX6 _ _ _ _ _ [(0, .ref (ad (0, 0, 0, 0))), (1, .int (zI g))] []
  have hS := hW.R
  have hN := hP.n
  have hk := hW.k
  have hl := hW.l
  have hG := hP.g hg
  have hT := hP.t hG
  refine G_aload_n (pc := 0) 0 0 dX6_aside_0 rfl rfl ?_
  refine G_iload_n (pc := 1) 1 1 dX6_aside_1 rfl rfl ?_
  refine G_callVd (pc := 2) gk_X6_186 dX6_aside_2 mg_0 rfl (c_X6_groupAt (by first | assumption | omega | exact ⟨by omega, by omega⟩ | exact hS _ _ | exact hT _ _) (by first | assumption | omega | exact ⟨by omega, by omega⟩ | exact hS _ _ | exact hT _ _)) rfl rfl (Nat.le_of_ble_eq_true rfl) ⟨⟨Nat.le_of_ble_eq_true rfl, Nat.le_of_ble_eq_true rfl⟩, Nat.le_of_ble_eq_true rfl, Nat.le_of_ble_eq_true rfl⟩ ?_
  refine G_iconst (pc := 5) dX6_aside_5 ?_
  refine G_callVd (pc := 6) gk_X6_260 dX6_aside_6 (mg_15 (by first | assumption | omega | exact ⟨by omega, by omega⟩ | exact hS _ _ | exact hT _ _)) rfl (c_X0_countOf (by first | assumption | omega | exact ⟨by omega, by omega⟩ | exact hS _ _ | exact hT _ _) (by first | assumption | omega | exact ⟨by omega, by omega⟩ | exact hS _ _ | exact hT _ _) (by first | assumption | omega | exact ⟨by omega, by omega⟩ | exact hS _ _ | exact hT _ _) (by first | assumption | omega | exact ⟨by omega, by omega⟩ | exact hS _ _ | exact hT _ _)) rfl rfl (Nat.le_of_ble_eq_true rfl) ⟨⟨Nat.le_of_ble_eq_true rfl, Nat.le_of_ble_eq_true rfl⟩, Nat.le_of_ble_eq_true rfl, Nat.le_of_ble_eq_true rfl⟩ ?_
  exact G_iret_d (pc := 9) hF dX6_aside_9 ⟨Nat.le_of_ble_eq_true rfl, Nat.le_of_ble_eq_true rfl⟩ (by first | rfl | omega | simp_all)
set_option maxHeartbeats 4000000 in
set_option maxRecDepth 100000 in
theorem c_X6_aside_x {l : Launch} {Δ : zDl} {ad : zK → Nat} {P : zP} {S : zS} {X : zMem} {g : Int} (hP : zWP P) (hW : zWS P S) (hr : zR g) (hn : ¬ (0 ≤ g ∧ g < P 3 0 0)) (hst : l.stackTraces = false) : zMx l Δ yX6_aside cX6_aside 2 (some .int) 9 1 6 [.ref (ad (0, 0, 0, 0)), .int (zI g)] ad (mm Δ ad P S X) zF0 (zE "java/lang/IndexOutOfBoundsException" ad (mm Δ ad P S X)) := by
  refine zMx_of hst (by decide) (Nat.le_of_ble_eq_true rfl) (fun Γ hl hΔ hF hX => ?_)
  subst hl hΔ
  show G Γ _ _ _ RX6 _ _ _ _ _ [(0, .ref (ad (0, 0, 0, 0))), (1, .int (zI g))] []
  refine G_aload_n (pc := 0) 0 0 dX6_aside_0 rfl rfl ?_
  refine G_iload_n (pc := 1) 1 1 dX6_aside_1 rfl rfl ?_
  exact G_callVt (pc := 2) gk_X6_186 dX6_aside_2 mg_0 rfl (c_X6_groupAt_x (by first | assumption | omega | exact ⟨by omega, by omega⟩ | exact hS _ _ | exact hT _ _) (by first | assumption | omega | exact ⟨by omega, by omega⟩ | exact hS _ _ | exact hT _ _) (by first | assumption | omega | exact ⟨by omega, by omega⟩ | exact hS _ _ | exact hT _ _) hst) rfl rfl (Nat.le_of_ble_eq_true rfl) ⟨⟨Nat.le_of_ble_eq_true rfl, Nat.le_of_ble_eq_true rfl⟩, Nat.le_of_ble_eq_true rfl, Nat.le_of_ble_eq_true rfl⟩ hX ⟨Nat.le_of_ble_eq_true rfl, Nat.le_of_ble_eq_true rfl⟩ ⟨rfl, rfl, rfl⟩
set_option maxHeartbeats 4000000 in
set_option maxRecDepth 100000 in
theorem c_X6_nextTime {l : Launch} {Δ : zDl} {ad : zK → Nat} {P : zP} {S : zS} {X : zMem} {g : Int} (hP : zWP P) (hg : 0 ≤ g ∧ g < P 3 0 0) (hW : zWS P S) : zMn l Δ yX6_nextTime cX6_nextTime 2 (some .int) 9 0 0 [.ref (ad (0, 0, 0, 0)), .int (zI g)] ad (mm Δ ad P S X) (zD (some (.int (zI (lp (zng P S g (S (0, 0, 0, 0) 6) (S (0, 0, 0, 0) 8)) 0 (P 1 (P 4 g 0) 0) (-1))))) ad (mm Δ ad P S X)) := by
  refine zMn_of (by decide) (Nat.le_of_ble_eq_true rfl) (fun Γ hl hΔ hF => ?_)
  subst hl hΔ
  show G Γ _ _ _ RX6 _ _ _ _ _ [(0, .ref (ad (0, 0, 0, 0))), (1, .int (zI g))] []
  have hS := hW.R
  have hN := hP.n
  have hk := hW.k
  have hl := hW.l
  have hG := hP.g hg
  have hT := hP.t hG
  refine G_aload_n (pc := 0) 0 0 dX6_nextTime_0 rfl rfl ?_
  refine G_iload_n (pc := 1) 1 1 dX6_nextTime_1 rfl rfl ?_
  refine G_callVd (pc := 2) gk_X6_186 dX6_nextTime_2 mg_0 rfl (c_X6_groupAt (by first | assumption | omega | exact ⟨by omega, by omega⟩ | exact hS _ _ | exact hT _ _) (by first | assumption | omega | exact ⟨by omega, by omega⟩ | exact hS _ _ | exact hT _ _)) rfl rfl (Nat.le_of_ble_eq_true rfl) ⟨⟨Nat.le_of_ble_eq_true rfl, Nat.le_of_ble_eq_true rfl⟩, Nat.le_of_ble_eq_true rfl, Nat.le_of_ble_eq_true rfl⟩ ?_
  refine G_aload_n (pc := 5) 0 0 dX6_nextTime_5 rfl rfl ?_
  refine G_getf (pc := 6) fl_X6_37 dX6_nextTime_6 mg_0 rfl ?_
  refine G_aload_n (pc := 9) 0 0 dX6_nextTime_9 rfl rfl ?_
  refine G_getf (pc := 10) fl_X6_43 dX6_nextTime_10 mg_0 rfl ?_
  refine G_callVd (pc := 13) gk_X6_282 dX6_nextTime_13 (mg_15 (by first | assumption | omega | exact ⟨by omega, by omega⟩ | exact hS _ _ | exact hT _ _)) rfl (c_X0_nextTimeFrom (by first | assumption | omega | exact ⟨by omega, by omega⟩ | exact hS _ _ | exact hT _ _) (by first | assumption | omega | exact ⟨by omega, by omega⟩ | exact hS _ _ | exact hT _ _) (by first | assumption | omega | exact ⟨by omega, by omega⟩ | exact hS _ _ | exact hT _ _) (by first | assumption | omega | exact ⟨by omega, by omega⟩ | exact hS _ _ | exact hT _ _) (by first | assumption | omega | exact ⟨by omega, by omega⟩ | exact hS _ _ | exact hT _ _)) rfl rfl (Nat.le_of_ble_eq_true rfl) ⟨⟨Nat.le_of_ble_eq_true rfl, Nat.le_of_ble_eq_true rfl⟩, Nat.le_of_ble_eq_true rfl, Nat.le_of_ble_eq_true rfl⟩ ?_
  exact G_iret_d (pc := 16) hF dX6_nextTime_16 ⟨Nat.le_of_ble_eq_true rfl, Nat.le_of_ble_eq_true rfl⟩ (by first | rfl | omega | simp_all)
set_option maxHeartbeats 4000000 in
set_option maxRecDepth 100000 in
theorem c_X6_nextTime_x {l : Launch} {Δ : zDl} {ad : zK → Nat} {P : zP} {S : zS} {X : zMem} {g : Int} (hP : zWP P) (hW : zWS P S) (hr : zR g) (hn : ¬ (0 ≤ g ∧ g < P 3 0 0)) (hst : l.stackTraces = false) : zMx l Δ yX6_nextTime cX6_nextTime 2 (some .int) 9 1 6 [.ref (ad (0, 0, 0, 0)), .int (zI g)] ad (mm Δ ad P S X) zF0 (zE "java/lang/IndexOutOfBoundsException" ad (mm Δ ad P S X)) := by
  refine zMx_of hst (by decide) (Nat.le_of_ble_eq_true rfl) (fun Γ hl hΔ hF hX => ?_)
  subst hl hΔ
  show G Γ _ _ _ RX6 _ _ _ _ _ [(0, .ref (ad (0, 0, 0, 0))), (1, .int (zI g))] []
  refine G_aload_n (pc := 0) 0 0 dX6_nextTime_0 rfl rfl ?_
  refine G_iload_n (pc := 1) 1 1 dX6_nextTime_1 rfl rfl ?_
  exact G_callVt (pc := 2) gk_X6_186 dX6_nextTime_2 mg_0 rfl (c_X6_groupAt_x (by first | assumption | omega | exact ⟨by omega, by omega⟩ | exact hS _ _ | exact hT _ _) (by first | assumption | omega | exact ⟨by omega, by omega⟩ | exact hS _ _ | exact hT _ _) (by first | assumption | omega | exact ⟨by omega, by omega⟩ | exact hS _ _ | exact hT _ _) hst) rfl rfl (Nat.le_of_ble_eq_true rfl) ⟨⟨Nat.le_of_ble_eq_true rfl, Nat.le_of_ble_eq_true rfl⟩, Nat.le_of_ble_eq_true rfl, Nat.le_of_ble_eq_true rfl⟩ hX ⟨Nat.le_of_ble_eq_true rfl, Nat.le_of_ble_eq_true rfl⟩ ⟨rfl, rfl, rfl⟩
set_option maxHeartbeats 4000000 in
set_option maxRecDepth 100000 in
theorem c_X6_row {l : Launch} {Δ : zDl} {ad : zK → Nat} {P : zP} {S : zS} {X : zMem} {x w : Int} (hP : zWP P) (hW : zWS P S) (hx : 0 ≤ x ∧ x < S (1, 0, 0, 0) 1) (hw : 0 ≤ w ∧ w ≤ 4) : zMn l Δ yX6_row cX6_row 3 (some .int) 9 0 0 [.ref (ad (0, 0, 0, 0)), .int (zI x), .int (zI w)] ad (mm Δ ad P S X) (zD (some (.int (zI (S (2, 0, 0, 0) (5 * x + w))))) ad (mm Δ ad P S X)) := by
  refine zMn_of (by decide) (Nat.le_of_ble_eq_true rfl) (fun Γ hl hΔ hF => ?_)
  subst hl hΔ
  show G Γ _ _ _ RX6 _ _ _ _ _ [(0, .ref (ad (0, 0, 0, 0))), (1, .int (zI x)), (2, .int (zI w))] []
  have hS := hW.R
  have hN := hP.n
  have hk := hW.k
  have hl := hW.l
  refine G_iload_n (pc := 0) 1 1 dX6_row_0 rfl rfl ?_
  refine G_iconst (pc := 1) dX6_row_1 ?_
  refine G_aload_n (pc := 2) 0 0 dX6_row_2 rfl rfl ?_
  refine G_getf (pc := 3) fl_X6_22 dX6_row_3 mg_0 rfl ?_
  refine G_getf (pc := 6) fl_X6_266 dX6_row_6 mg_1 rfl ?_
  refine G_iconst (pc := 9) dX6_row_9 ?_
  refine G_isub (pc := 10) dX6_row_10 ?_
  refine G_callSd (pc := 11) gk_X6_46 dX6_row_11 (c_X6_isWithin (by first | assumption | omega | exact ⟨by omega, by omega⟩ | exact hS _ _ | exact hT _ _) (by first | assumption | omega | exact ⟨by omega, by omega⟩ | exact hS _ _ | exact hT _ _) (by first | assumption | omega | exact ⟨by omega, by omega⟩ | exact hS _ _ | exact hT _ _)) rfl rfl (Nat.le_of_ble_eq_true rfl) ⟨⟨Nat.le_of_ble_eq_true rfl, Nat.le_of_ble_eq_true rfl⟩, Nat.le_of_ble_eq_true rfl, Nat.le_of_ble_eq_true rfl⟩ ?_
  refine G_if_ne_b (pc := 14) 28 dX6_row_14 (by decide) (fun c14 => ?_) (fun c14 => ?_)
  · refine G_iload_n (pc := 28) 2 2 dX6_row_28 rfl rfl ?_
    refine G_callSv (pc := 29) gk_X6_164 dX6_row_29 (c_X6_refuseOtherWhats (by first | assumption | omega | exact ⟨by omega, by omega⟩ | exact hS _ _ | exact hT _ _)) rfl rfl (Nat.le_of_ble_eq_true rfl) ⟨⟨Nat.le_of_ble_eq_true rfl, Nat.le_of_ble_eq_true rfl⟩, Nat.le_of_ble_eq_true rfl, Nat.le_of_ble_eq_true rfl⟩ ?_
    refine G_aload_n (pc := 32) 0 0 dX6_row_32 rfl rfl ?_
    refine G_getf (pc := 33) fl_X6_22 dX6_row_33 mg_0 rfl ?_
    refine G_iload_n (pc := 36) 1 1 dX6_row_36 rfl rfl ?_
    refine G_iload_n (pc := 37) 2 2 dX6_row_37 rfl rfl ?_
    refine G_callVd (pc := 38) gk_X6_273 dX6_row_38 mg_1 rfl (c_X1_at (by first | assumption | omega | exact ⟨by omega, by omega⟩ | exact hS _ _ | exact hT _ _) (by first | assumption | omega | exact ⟨by omega, by omega⟩ | exact hS _ _ | exact hT _ _)) rfl rfl (Nat.le_of_ble_eq_true rfl) ⟨⟨Nat.le_of_ble_eq_true rfl, Nat.le_of_ble_eq_true rfl⟩, Nat.le_of_ble_eq_true rfl, Nat.le_of_ble_eq_true rfl⟩ ?_
    exact G_iret_d (pc := 41) hF dX6_row_41 ⟨Nat.le_of_ble_eq_true rfl, Nat.le_of_ble_eq_true rfl⟩ (by first | rfl | omega | simp_all)
  · exfalso
    omega
set_option maxHeartbeats 4000000 in
set_option maxRecDepth 100000 in
theorem c_X6_row_x {l : Launch} {Δ : zDl} {ad : zK → Nat} {P : zP} {S : zS} {X : zMem} {x w : Int} (hP : zWP P) (hW : zWS P S) (hr : zR x) (hn : ¬ (0 ≤ x ∧ x < S (1, 0, 0, 0) 1)) (hst : l.stackTraces = false) : zMx l Δ yX6_row cX6_row 3 (some .int) 9 1 6 [.ref (ad (0, 0, 0, 0)), .int (zI x), .int (zI w)] ad (mm Δ ad P S X) zF0 (zE "java/lang/IndexOutOfBoundsException" ad (mm Δ ad P S X)) := by
  refine zMx_of hst (by decide) (Nat.le_of_ble_eq_true rfl) (fun Γ hl hΔ hF hX => ?_)
  subst hl hΔ
  show G Γ _ _ _ RX6 _ _ _ _ _ [(0, .ref (ad (0, 0, 0, 0))), (1, .int (zI x)), (2, .int (zI w))] []
  have hS := hW.R
  have hN := hP.n
  have hk := hW.k
  have hl := hW.l
  refine G_iload_n (pc := 0) 1 1 dX6_row_0 rfl rfl ?_
  refine G_iconst (pc := 1) dX6_row_1 ?_
  refine G_aload_n (pc := 2) 0 0 dX6_row_2 rfl rfl ?_
  refine G_getf (pc := 3) fl_X6_22 dX6_row_3 mg_0 rfl ?_
  refine G_getf (pc := 6) fl_X6_266 dX6_row_6 mg_1 rfl ?_
  refine G_iconst (pc := 9) dX6_row_9 ?_
  refine G_isub (pc := 10) dX6_row_10 ?_
  refine G_callSd (pc := 11) gk_X6_46 dX6_row_11 (c_X6_isWithin (by first | assumption | omega | exact ⟨by omega, by omega⟩ | exact hS _ _ | exact hT _ _) (by first | assumption | omega | exact ⟨by omega, by omega⟩ | exact hS _ _ | exact hT _ _) (by first | assumption | omega | exact ⟨by omega, by omega⟩ | exact hS _ _ | exact hT _ _)) rfl rfl (Nat.le_of_ble_eq_true rfl) ⟨⟨Nat.le_of_ble_eq_true rfl, Nat.le_of_ble_eq_true rfl⟩, Nat.le_of_ble_eq_true rfl, Nat.le_of_ble_eq_true rfl⟩ ?_
  refine G_if_ne_b (pc := 14) 28 dX6_row_14 (by decide) (fun c14 => ?_) (fun c14 => ?_)
  · exfalso
    omega
  · exact G_throwW (text := "no such row") hX tw_272 rfl (by decide) dX6_row_17 dX6_row_20 dX6_row_21 dX6_row_24 dX6_row_27 ⟨⟨Nat.le_of_ble_eq_true rfl, Nat.le_of_ble_eq_true rfl⟩, Nat.le_of_ble_eq_true rfl, Nat.le_of_ble_eq_true rfl⟩ ⟨Nat.le_of_ble_eq_true rfl, Nat.le_of_ble_eq_true rfl⟩ ⟨rfl, rfl, rfl⟩
set_option maxHeartbeats 4000000 in
set_option maxRecDepth 100000 in
theorem c_X6_row_y {l : Launch} {Δ : zDl} {ad : zK → Nat} {P : zP} {S : zS} {X : zMem} {x w : Int} (hP : zWP P) (hW : zWS P S) (hx : 0 ≤ x ∧ x < S (1, 0, 0, 0) 1) (hr : zR w) (hn : ¬ (0 ≤ w ∧ w ≤ 4)) (hst : l.stackTraces = false) : zMx l Δ yX6_row cX6_row 3 (some .int) 9 1 6 [.ref (ad (0, 0, 0, 0)), .int (zI x), .int (zI w)] ad (mm Δ ad P S X) zF0 (zE "java/lang/IllegalArgumentException" ad (mm Δ ad P S X)) := by
  refine zMx_of hst (by decide) (Nat.le_of_ble_eq_true rfl) (fun Γ hl hΔ hF hX => ?_)
  subst hl hΔ
  show G Γ _ _ _ RX6 _ _ _ _ _ [(0, .ref (ad (0, 0, 0, 0))), (1, .int (zI x)), (2, .int (zI w))] []
  have hS := hW.R
  have hN := hP.n
  have hk := hW.k
  have hl := hW.l
  refine G_iload_n (pc := 0) 1 1 dX6_row_0 rfl rfl ?_
  refine G_iconst (pc := 1) dX6_row_1 ?_
  refine G_aload_n (pc := 2) 0 0 dX6_row_2 rfl rfl ?_
  refine G_getf (pc := 3) fl_X6_22 dX6_row_3 mg_0 rfl ?_
  refine G_getf (pc := 6) fl_X6_266 dX6_row_6 mg_1 rfl ?_
  refine G_iconst (pc := 9) dX6_row_9 ?_
  refine G_isub (pc := 10) dX6_row_10 ?_
  refine G_callSd (pc := 11) gk_X6_46 dX6_row_11 (c_X6_isWithin (by first | assumption | omega | exact ⟨by omega, by omega⟩ | exact hS _ _ | exact hT _ _) (by first | assumption | omega | exact ⟨by omega, by omega⟩ | exact hS _ _ | exact hT _ _) (by first | assumption | omega | exact ⟨by omega, by omega⟩ | exact hS _ _ | exact hT _ _)) rfl rfl (Nat.le_of_ble_eq_true rfl) ⟨⟨Nat.le_of_ble_eq_true rfl, Nat.le_of_ble_eq_true rfl⟩, Nat.le_of_ble_eq_true rfl, Nat.le_of_ble_eq_true rfl⟩ ?_
  refine G_if_ne_b (pc := 14) 28 dX6_row_14 (by decide) (fun c14 => ?_) (fun c14 => ?_)
  · refine G_iload_n (pc := 28) 2 2 dX6_row_28 rfl rfl ?_
    exact G_callSt (pc := 29) gk_X6_164 dX6_row_29 (c_X6_refuseOtherWhats_x (by first | assumption | omega | exact ⟨by omega, by omega⟩ | exact hS _ _ | exact hT _ _) (by first | assumption | omega | exact ⟨by omega, by omega⟩ | exact hS _ _ | exact hT _ _) hst) rfl rfl (Nat.le_of_ble_eq_true rfl) ⟨⟨Nat.le_of_ble_eq_true rfl, Nat.le_of_ble_eq_true rfl⟩, Nat.le_of_ble_eq_true rfl, Nat.le_of_ble_eq_true rfl⟩ hX ⟨Nat.le_of_ble_eq_true rfl, Nat.le_of_ble_eq_true rfl⟩ ⟨rfl, rfl, rfl⟩
  · exfalso
    omega
set_option maxHeartbeats 4000000 in
set_option maxRecDepth 100000 in
theorem c_X6_wouldTake {l : Launch} {Δ : zDl} {ad : zK → Nat} {P : zP} {S : zS} {X : zMem} {g r : Int} (hP : zWP P) (hg : 0 ≤ g ∧ g < P 3 0 0) (hW : zWS P S) (hx : 0 ≤ r ∧ r < 6) : zMn l Δ yX6_wouldTake cX6_wouldTake 4 (some .int) 9 0 0 [.ref (ad (0, 0, 0, 0)), .int (zI g), .int (zI r)] ad (mm Δ ad P S X) (zD (some (.int (zI (znp P S g r (S (0, 0, 0, 0) 6))))) ad (mm Δ ad P S X)) := by
  refine zMn_of (by decide) (Nat.le_of_ble_eq_true rfl) (fun Γ hl hΔ hF => ?_)
  subst hl hΔ
  show G Γ _ _ _ RX6 _ _ _ _ _ [(0, .ref (ad (0, 0, 0, 0))), (1, .int (zI g)), (2, .int (zI r))] []
  have hS := hW.R
  have hN := hP.n
  have hk := hW.k
  have hl := hW.l
  have hG := hP.g hg
  have hT := hP.t hG
  refine G_aload_n (pc := 0) 0 0 dX6_wouldTake_0 rfl rfl ?_
  refine G_iload_n (pc := 1) 1 1 dX6_wouldTake_1 rfl rfl ?_
  refine G_callVd (pc := 2) gk_X6_186 dX6_wouldTake_2 mg_0 rfl (c_X6_groupAt (by first | assumption | omega | exact ⟨by omega, by omega⟩ | exact hS _ _ | exact hT _ _) (by first | assumption | omega | exact ⟨by omega, by omega⟩ | exact hS _ _ | exact hT _ _)) rfl rfl (Nat.le_of_ble_eq_true rfl) ⟨⟨Nat.le_of_ble_eq_true rfl, Nat.le_of_ble_eq_true rfl⟩, Nat.le_of_ble_eq_true rfl, Nat.le_of_ble_eq_true rfl⟩ ?_
  refine G_astore_n (pc := 5) 3 [(3, .ref (ad (15, g, 0, 0))), (0, .ref (ad (0, 0, 0, 0))), (1, .int (zI g)), (2, .int (zI r))] dX6_wouldTake_5 rfl (by decide) rfl ?_
  refine G_iload_n (pc := 6) 2 3 dX6_wouldTake_6 rfl rfl ?_
  refine G_callSv (pc := 7) gk_X6_190 dX6_wouldTake_7 (c_X6_refuseOtherReaders (by first | assumption | omega | exact ⟨by omega, by omega⟩ | exact hS _ _ | exact hT _ _)) rfl rfl (Nat.le_of_ble_eq_true rfl) ⟨⟨Nat.le_of_ble_eq_true rfl, Nat.le_of_ble_eq_true rfl⟩, Nat.le_of_ble_eq_true rfl, Nat.le_of_ble_eq_true rfl⟩ ?_
  refine G_aload_n (pc := 10) 3 0 dX6_wouldTake_10 rfl rfl ?_
  refine G_iload_n (pc := 11) 2 3 dX6_wouldTake_11 rfl rfl ?_
  refine G_aload_n (pc := 12) 0 1 dX6_wouldTake_12 rfl rfl ?_
  refine G_getf (pc := 13) fl_X6_37 dX6_wouldTake_13 mg_0 rfl ?_
  refine G_callVd (pc := 16) gk_X6_201 dX6_wouldTake_16 (mg_15 (by first | assumption | omega | exact ⟨by omega, by omega⟩ | exact hS _ _ | exact hT _ _)) rfl (c_X0_nextPlace (by first | assumption | omega | exact ⟨by omega, by omega⟩ | exact hS _ _ | exact hT _ _) (by first | assumption | omega | exact ⟨by omega, by omega⟩ | exact hS _ _ | exact hT _ _) (by first | assumption | omega | exact ⟨by omega, by omega⟩ | exact hS _ _ | exact hT _ _) (by first | assumption | omega | exact ⟨by omega, by omega⟩ | exact hS _ _ | exact hT _ _) (by first | assumption | omega | exact ⟨by omega, by omega⟩ | exact hS _ _ | exact hT _ _)) rfl rfl (Nat.le_of_ble_eq_true rfl) ⟨⟨Nat.le_of_ble_eq_true rfl, Nat.le_of_ble_eq_true rfl⟩, Nat.le_of_ble_eq_true rfl, Nat.le_of_ble_eq_true rfl⟩ ?_
  exact G_iret_d (pc := 19) hF dX6_wouldTake_19 ⟨Nat.le_of_ble_eq_true rfl, Nat.le_of_ble_eq_true rfl⟩ (by first | rfl | omega | simp_all)
set_option maxHeartbeats 4000000 in
set_option maxRecDepth 100000 in
theorem c_X6_wouldTake_xa {l : Launch} {Δ : zDl} {ad : zK → Nat} {P : zP} {S : zS} {X : zMem} {g r : Int} (hP : zWP P) (hW : zWS P S) (hr : zR g) (hn : ¬ (0 ≤ g ∧ g < P 3 0 0)) (hst : l.stackTraces = false) : zMx l Δ yX6_wouldTake cX6_wouldTake 4 (some .int) 9 1 6 [.ref (ad (0, 0, 0, 0)), .int (zI g), .int (zI r)] ad (mm Δ ad P S X) zF0 (zE "java/lang/IndexOutOfBoundsException" ad (mm Δ ad P S X)) := by
  refine zMx_of hst (by decide) (Nat.le_of_ble_eq_true rfl) (fun Γ hl hΔ hF hX => ?_)
  subst hl hΔ
  show G Γ _ _ _ RX6 _ _ _ _ _ [(0, .ref (ad (0, 0, 0, 0))), (1, .int (zI g)), (2, .int (zI r))] []
  refine G_aload_n (pc := 0) 0 0 dX6_wouldTake_0 rfl rfl ?_
  refine G_iload_n (pc := 1) 1 1 dX6_wouldTake_1 rfl rfl ?_
  exact G_callVt (pc := 2) gk_X6_186 dX6_wouldTake_2 mg_0 rfl (c_X6_groupAt_x (by first | assumption | omega | exact ⟨by omega, by omega⟩ | exact hS _ _ | exact hT _ _) (by first | assumption | omega | exact ⟨by omega, by omega⟩ | exact hS _ _ | exact hT _ _) (by first | assumption | omega | exact ⟨by omega, by omega⟩ | exact hS _ _ | exact hT _ _) hst) rfl rfl (Nat.le_of_ble_eq_true rfl) ⟨⟨Nat.le_of_ble_eq_true rfl, Nat.le_of_ble_eq_true rfl⟩, Nat.le_of_ble_eq_true rfl, Nat.le_of_ble_eq_true rfl⟩ hX ⟨Nat.le_of_ble_eq_true rfl, Nat.le_of_ble_eq_true rfl⟩ ⟨rfl, rfl, rfl⟩
set_option maxHeartbeats 4000000 in
set_option maxRecDepth 100000 in
theorem c_X6_wouldTake_xb {l : Launch} {Δ : zDl} {ad : zK → Nat} {P : zP} {S : zS} {X : zMem} {g r : Int} (hP : zWP P) (hg : 0 ≤ g ∧ g < P 3 0 0) (hW : zWS P S) (hr : zR r) (hn : ¬ (0 ≤ r ∧ r < 6)) (hst : l.stackTraces = false) : zMx l Δ yX6_wouldTake cX6_wouldTake 4 (some .int) 9 1 6 [.ref (ad (0, 0, 0, 0)), .int (zI g), .int (zI r)] ad (mm Δ ad P S X) zF0 (zE "java/lang/IndexOutOfBoundsException" ad (mm Δ ad P S X)) := by
  refine zMx_of hst (by decide) (Nat.le_of_ble_eq_true rfl) (fun Γ hl hΔ hF hX => ?_)
  subst hl hΔ
  show G Γ _ _ _ RX6 _ _ _ _ _ [(0, .ref (ad (0, 0, 0, 0))), (1, .int (zI g)), (2, .int (zI r))] []
  have hS := hW.R
  have hN := hP.n
  have hk := hW.k
  have hl := hW.l
  have hG := hP.g hg
  have hT := hP.t hG
  refine G_aload_n (pc := 0) 0 0 dX6_wouldTake_0 rfl rfl ?_
  refine G_iload_n (pc := 1) 1 1 dX6_wouldTake_1 rfl rfl ?_
  refine G_callVd (pc := 2) gk_X6_186 dX6_wouldTake_2 mg_0 rfl (c_X6_groupAt (by first | assumption | omega | exact ⟨by omega, by omega⟩ | exact hS _ _ | exact hT _ _) (by first | assumption | omega | exact ⟨by omega, by omega⟩ | exact hS _ _ | exact hT _ _)) rfl rfl (Nat.le_of_ble_eq_true rfl) ⟨⟨Nat.le_of_ble_eq_true rfl, Nat.le_of_ble_eq_true rfl⟩, Nat.le_of_ble_eq_true rfl, Nat.le_of_ble_eq_true rfl⟩ ?_
  refine G_astore_n (pc := 5) 3 [(3, .ref (ad (15, g, 0, 0))), (0, .ref (ad (0, 0, 0, 0))), (1, .int (zI g)), (2, .int (zI r))] dX6_wouldTake_5 rfl (by decide) rfl ?_
  refine G_iload_n (pc := 6) 2 3 dX6_wouldTake_6 rfl rfl ?_
  exact G_callSt (pc := 7) gk_X6_190 dX6_wouldTake_7 (c_X6_refuseOtherReaders_x (by first | assumption | omega | exact ⟨by omega, by omega⟩ | exact hS _ _ | exact hT _ _) (by first | assumption | omega | exact ⟨by omega, by omega⟩ | exact hS _ _ | exact hT _ _) hst) rfl rfl (Nat.le_of_ble_eq_true rfl) ⟨⟨Nat.le_of_ble_eq_true rfl, Nat.le_of_ble_eq_true rfl⟩, Nat.le_of_ble_eq_true rfl, Nat.le_of_ble_eq_true rfl⟩ hX ⟨Nat.le_of_ble_eq_true rfl, Nat.le_of_ble_eq_true rfl⟩ ⟨rfl, rfl, rfl⟩
set_option maxHeartbeats 4000000 in
set_option maxRecDepth 100000 in
theorem c_X6_wouldTake_x {l : Launch} {Δ : zDl} {ad : zK → Nat} {P : zP} {S : zS} {X : zMem} {g r : Int} (hP : zWP P) (hW : zWS P S) (hr : zR g) (hq : zR r) (hn : ¬ ((0 ≤ g ∧ g < P 3 0 0) ∧ (0 ≤ r ∧ r < 6))) (hst : l.stackTraces = false) : zMx l Δ yX6_wouldTake cX6_wouldTake 4 (some .int) 9 1 6 [.ref (ad (0, 0, 0, 0)), .int (zI g), .int (zI r)] ad (mm Δ ad P S X) zF0 (zE "java/lang/IndexOutOfBoundsException" ad (mm Δ ad P S X)) := by
  by_cases hg : 0 ≤ g ∧ g < P 3 0 0
  · exact c_X6_wouldTake_xb hP hg hW hq (fun q => hn ⟨hg, q⟩) hst
  · exact c_X6_wouldTake_xa hP hW hr hg hst
set_option maxHeartbeats 4000000 in
set_option maxRecDepth 100000 in
theorem c_X6_setKeep {l : Launch} {Δ : zDl} {ad : zK → Nat} {P : zP} {S : zS} {X : zMem} {t k : Int} (hP : zWP P) (ht : 0 ≤ t ∧ t < P 0 0 0) (hW : zWS P S) (hk2 : 0 ≤ k ∧ k ≤ 200) : zMn l Δ yX6_setKeep cX6_setKeep 5 (some .int) 9 0 0 [.ref (ad (0, 0, 0, 0)), .int (zI t), .int (zI k)] ad (mm Δ ad P S X) (zD (some (.int (zI (S (8, t, 0, 0) 3)))) ad (mm Δ ad P (zst S (8, t, 0, 0) 3 k) X)) := by
  refine zMn_of (by decide) (Nat.le_of_ble_eq_true rfl) (fun Γ hl hΔ hF => ?_)
  subst hl hΔ
  show G Γ _ _ _ RX6 _ _ _ _ _ [(0, .ref (ad (0, 0, 0, 0))), (1, .int (zI t)), (2, .int (zI k))] []
  have hS := hW.R
  have hN := hP.n
  have hk := hW.k
  have hl := hW.l
  have hT := hP.t ht
  refine G_aload_n (pc := 0) 0 0 dX6_setKeep_0 rfl rfl ?_
  refine G_iload_n (pc := 1) 1 1 dX6_setKeep_1 rfl rfl ?_
  refine G_callVd (pc := 2) gk_X6_75 dX6_setKeep_2 mg_0 rfl (c_X6_topicAt (by first | assumption | omega | exact ⟨by omega, by omega⟩ | exact hS _ _ | exact hT _ _) (by first | assumption | omega | exact ⟨by omega, by omega⟩ | exact hS _ _ | exact hT _ _)) rfl rfl (Nat.le_of_ble_eq_true rfl) ⟨⟨Nat.le_of_ble_eq_true rfl, Nat.le_of_ble_eq_true rfl⟩, Nat.le_of_ble_eq_true rfl, Nat.le_of_ble_eq_true rfl⟩ ?_
  refine G_astore_n (pc := 5) 3 [(3, .ref (ad (8, t, 0, 0))), (0, .ref (ad (0, 0, 0, 0))), (1, .int (zI t)), (2, .int (zI k))] dX6_setKeep_5 rfl (by decide) rfl ?_
  refine G_iload_n (pc := 6) 2 3 dX6_setKeep_6 rfl rfl ?_
  refine G_iconst (pc := 7) dX6_setKeep_7 ?_
  refine G_sipush (pc := 8) dX6_setKeep_8 (by decide) ?_
  refine G_callSd (pc := 11) gk_X6_46 dX6_setKeep_11 (c_X6_isWithin (by first | assumption | omega | exact ⟨by omega, by omega⟩ | exact hS _ _ | exact hT _ _) (by first | assumption | omega | exact ⟨by omega, by omega⟩ | exact hS _ _ | exact hT _ _) (by first | assumption | omega | exact ⟨by omega, by omega⟩ | exact hS _ _ | exact hT _ _)) rfl rfl (Nat.le_of_ble_eq_true rfl) ⟨⟨Nat.le_of_ble_eq_true rfl, Nat.le_of_ble_eq_true rfl⟩, Nat.le_of_ble_eq_true rfl, Nat.le_of_ble_eq_true rfl⟩ ?_
  refine G_if_ne_b (pc := 14) 27 dX6_setKeep_14 (by decide) (fun c14 => ?_) (fun c14 => ?_)
  · refine G_aload_n (pc := 27) 3 0 dX6_setKeep_27 rfl rfl ?_
    refine G_getf (pc := 28) fl_X6_124 dX6_setKeep_28 (mg_8 (by first | assumption | omega | exact ⟨by omega, by omega⟩ | exact hS _ _ | exact hT _ _)) rfl ?_
    refine G_istore_e (pc := 31) (fun zw => [(4, .int (zI zw)), (3, .ref (ad (8, t, 0, 0))), (0, .ref (ad (0, 0, 0, 0))), (1, .int (zI t)), (2, .int (zI k))]) dX6_setKeep_31 (by decide) (fun _ => rfl) (fun v31 e31 => ?_)
    refine G_aload_n (pc := 33) 3 1 dX6_setKeep_33 rfl rfl ?_
    refine G_iload_n (pc := 34) 2 4 dX6_setKeep_34 rfl rfl ?_
    refine G_putf (pc := 35) fl_X6_124 fp_X5_3 dX6_setKeep_35 (mg_8 (by first | assumption | omega | exact ⟨by omega, by omega⟩ | exact hS _ _ | exact hT _ _)) (Nat.le_of_ble_eq_true rfl) rfl rfl (mp_8_3 _ (by first | assumption | omega | exact ⟨by omega, by omega⟩ | exact hS _ _ | exact hT _ _)) ?_
    refine G_name (fun S1_35 hS1_35 => ?_)
    refine G_iload (pc := 38) 0 dX6_setKeep_38 rfl ?_
    exact G_iret_m (pc := 40) hF dX6_setKeep_40 ⟨Nat.le_of_ble_eq_true rfl, Nat.le_of_ble_eq_true rfl⟩ (by first | rfl | omega | simp_all) (by rw [hS1_35])
  · exfalso
    omega
set_option maxHeartbeats 4000000 in
set_option maxRecDepth 100000 in
theorem c_X6_setKeep_x {l : Launch} {Δ : zDl} {ad : zK → Nat} {P : zP} {S : zS} {X : zMem} {t k : Int} (hP : zWP P) (hW : zWS P S) (hr : zR t) (hn : ¬ (0 ≤ t ∧ t < P 0 0 0)) (hst : l.stackTraces = false) : zMx l Δ yX6_setKeep cX6_setKeep 5 (some .int) 9 1 6 [.ref (ad (0, 0, 0, 0)), .int (zI t), .int (zI k)] ad (mm Δ ad P S X) zF0 (zE "java/lang/IndexOutOfBoundsException" ad (mm Δ ad P S X)) := by
  refine zMx_of hst (by decide) (Nat.le_of_ble_eq_true rfl) (fun Γ hl hΔ hF hX => ?_)
  subst hl hΔ
  show G Γ _ _ _ RX6 _ _ _ _ _ [(0, .ref (ad (0, 0, 0, 0))), (1, .int (zI t)), (2, .int (zI k))] []
  refine G_aload_n (pc := 0) 0 0 dX6_setKeep_0 rfl rfl ?_
  refine G_iload_n (pc := 1) 1 1 dX6_setKeep_1 rfl rfl ?_
  exact G_callVt (pc := 2) gk_X6_75 dX6_setKeep_2 mg_0 rfl (c_X6_topicAt_x (by first | assumption | omega | exact ⟨by omega, by omega⟩ | exact hS _ _ | exact hT _ _) (by first | assumption | omega | exact ⟨by omega, by omega⟩ | exact hS _ _ | exact hT _ _) (by first | assumption | omega | exact ⟨by omega, by omega⟩ | exact hS _ _ | exact hT _ _) hst) rfl rfl (Nat.le_of_ble_eq_true rfl) ⟨⟨Nat.le_of_ble_eq_true rfl, Nat.le_of_ble_eq_true rfl⟩, Nat.le_of_ble_eq_true rfl, Nat.le_of_ble_eq_true rfl⟩ hX ⟨Nat.le_of_ble_eq_true rfl, Nat.le_of_ble_eq_true rfl⟩ ⟨rfl, rfl, rfl⟩
set_option maxHeartbeats 4000000 in
set_option maxRecDepth 100000 in
theorem c_X6_setKeep_y {l : Launch} {Δ : zDl} {ad : zK → Nat} {P : zP} {S : zS} {X : zMem} {t k : Int} (hP : zWP P) (ht : 0 ≤ t ∧ t < P 0 0 0) (hW : zWS P S) (hr : zR k) (hn : ¬ (0 ≤ k ∧ k ≤ 200)) (hst : l.stackTraces = false) : zMx l Δ yX6_setKeep cX6_setKeep 5 (some .int) 9 1 6 [.ref (ad (0, 0, 0, 0)), .int (zI t), .int (zI k)] ad (mm Δ ad P S X) zF0 (zE "java/lang/IllegalArgumentException" ad (mm Δ ad P S X)) := by
  refine zMx_of hst (by decide) (Nat.le_of_ble_eq_true rfl) (fun Γ hl hΔ hF hX => ?_)
  subst hl hΔ
  show G Γ _ _ _ RX6 _ _ _ _ _ [(0, .ref (ad (0, 0, 0, 0))), (1, .int (zI t)), (2, .int (zI k))] []
  have hS := hW.R
  have hN := hP.n
  have hk := hW.k
  have hl := hW.l
  have hT := hP.t ht
  refine G_aload_n (pc := 0) 0 0 dX6_setKeep_0 rfl rfl ?_
  refine G_iload_n (pc := 1) 1 1 dX6_setKeep_1 rfl rfl ?_
  refine G_callVd (pc := 2) gk_X6_75 dX6_setKeep_2 mg_0 rfl (c_X6_topicAt (by first | assumption | omega | exact ⟨by omega, by omega⟩ | exact hS _ _ | exact hT _ _) (by first | assumption | omega | exact ⟨by omega, by omega⟩ | exact hS _ _ | exact hT _ _)) rfl rfl (Nat.le_of_ble_eq_true rfl) ⟨⟨Nat.le_of_ble_eq_true rfl, Nat.le_of_ble_eq_true rfl⟩, Nat.le_of_ble_eq_true rfl, Nat.le_of_ble_eq_true rfl⟩ ?_
  refine G_astore_n (pc := 5) 3 [(3, .ref (ad (8, t, 0, 0))), (0, .ref (ad (0, 0, 0, 0))), (1, .int (zI t)), (2, .int (zI k))] dX6_setKeep_5 rfl (by decide) rfl ?_
  refine G_iload_n (pc := 6) 2 3 dX6_setKeep_6 rfl rfl ?_
  refine G_iconst (pc := 7) dX6_setKeep_7 ?_
  refine G_sipush (pc := 8) dX6_setKeep_8 (by decide) ?_
  refine G_callSd (pc := 11) gk_X6_46 dX6_setKeep_11 (c_X6_isWithin (by first | assumption | omega | exact ⟨by omega, by omega⟩ | exact hS _ _ | exact hT _ _) (by first | assumption | omega | exact ⟨by omega, by omega⟩ | exact hS _ _ | exact hT _ _) (by first | assumption | omega | exact ⟨by omega, by omega⟩ | exact hS _ _ | exact hT _ _)) rfl rfl (Nat.le_of_ble_eq_true rfl) ⟨⟨Nat.le_of_ble_eq_true rfl, Nat.le_of_ble_eq_true rfl⟩, Nat.le_of_ble_eq_true rfl, Nat.le_of_ble_eq_true rfl⟩ ?_
  refine G_if_ne_b (pc := 14) 27 dX6_setKeep_14 (by decide) (fun c14 => ?_) (fun c14 => ?_)
  · exfalso
    omega
  · exact G_throw (text := "keep is 0 to 200") hX tw_54 rfl (by decide) dX6_setKeep_17 dX6_setKeep_20 dX6_setKeep_21 dX6_setKeep_23 dX6_setKeep_26 ⟨⟨Nat.le_of_ble_eq_true rfl, Nat.le_of_ble_eq_true rfl⟩, Nat.le_of_ble_eq_true rfl, Nat.le_of_ble_eq_true rfl⟩ ⟨Nat.le_of_ble_eq_true rfl, Nat.le_of_ble_eq_true rfl⟩ ⟨rfl, rfl, rfl⟩
set_option maxHeartbeats 4000000 in
set_option maxRecDepth 100000 in
theorem c_X6_begin {l : Launch} {Δ : zDl} {ad : zK → Nat} {P : zP} {S : zS} {X : zMem} {x : Int} (hP : zWP P) (hW : zWS P S) (hx : 0 ≤ x ∧ x < 4) (h0 : S (3, 0, 0, 0) x = 0) : zMn l Δ yX6_begin cX6_begin 2 (some .int) 9 0 0 [.ref (ad (0, 0, 0, 0)), .int (zI x)] ad (mm Δ ad P S X) (zD (some (.int (zI (S (0, 0, 0, 0) 4 + 1)))) ad (mm Δ ad P (zst (zst S (3, 0, 0, 0) x 1) (0, 0, 0, 0) 4 (S (0, 0, 0, 0) 4 + 1)) X)) := by
  refine zMn_of (by decide) (Nat.le_of_ble_eq_true rfl) (fun Γ hl hΔ hF => ?_)
  subst hl hΔ
  show G Γ _ _ _ RX6 _ _ _ _ _ [(0, .ref (ad (0, 0, 0, 0))), (1, .int (zI x))] []
  have hS := hW.R
  have hN := hP.n
  have hk := hW.k
  have hl := hW.l
  refine G_iload_n (pc := 0) 1 1 dX6_begin_0 rfl rfl ?_
  refine G_callSv (pc := 1) gk_X6_79 dX6_begin_1 (c_X6_refuseOtherProducers (by first | assumption | omega | exact ⟨by omega, by omega⟩ | exact hS _ _ | exact hT _ _)) rfl rfl (Nat.le_of_ble_eq_true rfl) ⟨⟨Nat.le_of_ble_eq_true rfl, Nat.le_of_ble_eq_true rfl⟩, Nat.le_of_ble_eq_true rfl, Nat.le_of_ble_eq_true rfl⟩ ?_
  refine G_aload_n (pc := 4) 0 0 dX6_begin_4 rfl rfl ?_
  refine G_getf (pc := 5) fl_X6_26 dX6_begin_5 mg_0 rfl ?_
  refine G_iload_n (pc := 8) 1 1 dX6_begin_8 rfl rfl ?_
  refine G_zald (pc := 9) dX6_begin_9 mg_3 ⟨by omega, by omega, by omega, by omega⟩ ?_
  refine G_if_eq (pc := 10) 23 dX6_begin_10 (by decide) (by first | exact hS _ _ | exact hT _ _ | exact ⟨by omega, by omega⟩ | assumption) (fun c10 => ?_) (fun c10 => ?_)
  · refine G_aload_n (pc := 23) 0 0 dX6_begin_23 rfl rfl ?_
    refine G_getf (pc := 24) fl_X6_26 dX6_begin_24 mg_0 rfl ?_
    refine G_iload_n (pc := 27) 1 1 dX6_begin_27 rfl rfl ?_
    refine G_iconst (pc := 28) dX6_begin_28 ?_
    refine G_zast (pc := 29) dX6_begin_29 mg_3 ⟨by omega, by omega, by omega, by omega⟩ (by first | exact zb_ite | omega) (mp_3 _ _) ?_
    refine G_name (fun S1_29 hS1_29 => ?_)
    refine G_aload_n (pc := 30) 0 0 dX6_begin_30 rfl rfl ?_
    refine G_dup (pc := 31) dX6_begin_31 rfl ?_
    refine G_getf (pc := 32) fl_X6_30 dX6_begin_32 mg_0 rfl ?_
    refine G_iconst (pc := 35) dX6_begin_35 ?_
    refine G_iadd (pc := 36) dX6_begin_36 ?_
    refine G_putf (pc := 37) fl_X6_30 fp_X6_4 dX6_begin_37 mg_0 (Nat.le_of_ble_eq_true rfl) rfl rfl (mp_0_4 _) ?_
    refine G_name (fun S2_37 hS2_37 => ?_)
    refine G_aload_n (pc := 40) 0 0 dX6_begin_40 rfl rfl ?_
    refine G_getf (pc := 41) fl_X6_30 dX6_begin_41 mg_0 rfl ?_
    exact G_iret_m (pc := 44) hF dX6_begin_44 ⟨Nat.le_of_ble_eq_true rfl, Nat.le_of_ble_eq_true rfl⟩ (by rw [hS2_37, zst_s, hS1_29, zst_k _ _ _ _ (by simp)]) (by rw [hS2_37, hS1_29, zst_k _ _ _ _ (by simp)])
  · exfalso
    omega
set_option maxHeartbeats 4000000 in
set_option maxRecDepth 100000 in
theorem c_X6_begin_x {l : Launch} {Δ : zDl} {ad : zK → Nat} {P : zP} {S : zS} {X : zMem} {x : Int} (hP : zWP P) (hW : zWS P S) (hr : zR x) (hn : ¬ (0 ≤ x ∧ x < 4)) (hst : l.stackTraces = false) : zMx l Δ yX6_begin cX6_begin 2 (some .int) 9 1 6 [.ref (ad (0, 0, 0, 0)), .int (zI x)] ad (mm Δ ad P S X) zF0 (zE "java/lang/IndexOutOfBoundsException" ad (mm Δ ad P S X)) := by
  refine zMx_of hst (by decide) (Nat.le_of_ble_eq_true rfl) (fun Γ hl hΔ hF hX => ?_)
  subst hl hΔ
  show G Γ _ _ _ RX6 _ _ _ _ _ [(0, .ref (ad (0, 0, 0, 0))), (1, .int (zI x))] []
  refine G_iload_n (pc := 0) 1 1 dX6_begin_0 rfl rfl ?_
  exact G_callSt (pc := 1) gk_X6_79 dX6_begin_1 (c_X6_refuseOtherProducers_x (by first | assumption | omega | exact ⟨by omega, by omega⟩ | exact hS _ _ | exact hT _ _) (by first | assumption | omega | exact ⟨by omega, by omega⟩ | exact hS _ _ | exact hT _ _) hst) rfl rfl (Nat.le_of_ble_eq_true rfl) ⟨⟨Nat.le_of_ble_eq_true rfl, Nat.le_of_ble_eq_true rfl⟩, Nat.le_of_ble_eq_true rfl, Nat.le_of_ble_eq_true rfl⟩ hX ⟨Nat.le_of_ble_eq_true rfl, Nat.le_of_ble_eq_true rfl⟩ ⟨rfl, rfl, rfl⟩
set_option maxHeartbeats 4000000 in
set_option maxRecDepth 100000 in
theorem c_X6_begin_y {l : Launch} {Δ : zDl} {ad : zK → Nat} {P : zP} {S : zS} {X : zMem} {x : Int} (hP : zWP P) (hW : zWS P S) (hx : 0 ≤ x ∧ x < 4) (h0 : ¬ S (3, 0, 0, 0) x = 0) (hst : l.stackTraces = false) : zMx l Δ yX6_begin cX6_begin 2 (some .int) 9 1 6 [.ref (ad (0, 0, 0, 0)), .int (zI x)] ad (mm Δ ad P S X) zF0 (zE "java/lang/IllegalStateException" ad (mm Δ ad P S X)) := by
  refine zMx_of hst (by decide) (Nat.le_of_ble_eq_true rfl) (fun Γ hl hΔ hF hX => ?_)
  subst hl hΔ
  show G Γ _ _ _ RX6 _ _ _ _ _ [(0, .ref (ad (0, 0, 0, 0))), (1, .int (zI x))] []
  have hS := hW.R
  have hN := hP.n
  have hk := hW.k
  have hl := hW.l
  refine G_iload_n (pc := 0) 1 1 dX6_begin_0 rfl rfl ?_
  refine G_callSv (pc := 1) gk_X6_79 dX6_begin_1 (c_X6_refuseOtherProducers (by first | assumption | omega | exact ⟨by omega, by omega⟩ | exact hS _ _ | exact hT _ _)) rfl rfl (Nat.le_of_ble_eq_true rfl) ⟨⟨Nat.le_of_ble_eq_true rfl, Nat.le_of_ble_eq_true rfl⟩, Nat.le_of_ble_eq_true rfl, Nat.le_of_ble_eq_true rfl⟩ ?_
  refine G_aload_n (pc := 4) 0 0 dX6_begin_4 rfl rfl ?_
  refine G_getf (pc := 5) fl_X6_26 dX6_begin_5 mg_0 rfl ?_
  refine G_iload_n (pc := 8) 1 1 dX6_begin_8 rfl rfl ?_
  refine G_zald (pc := 9) dX6_begin_9 mg_3 ⟨by omega, by omega, by omega, by omega⟩ ?_
  refine G_if_eq (pc := 10) 23 dX6_begin_10 (by decide) (by first | exact hS _ _ | exact hT _ _ | exact ⟨by omega, by omega⟩ | assumption) (fun c10 => ?_) (fun c10 => ?_)
  · exfalso
    omega
  · exact G_throw (text := "its transaction is not ended") hX tw_65 rfl (by decide) dX6_begin_13 dX6_begin_16 dX6_begin_17 dX6_begin_19 dX6_begin_22 ⟨⟨Nat.le_of_ble_eq_true rfl, Nat.le_of_ble_eq_true rfl⟩, Nat.le_of_ble_eq_true rfl, Nat.le_of_ble_eq_true rfl⟩ ⟨Nat.le_of_ble_eq_true rfl, Nat.le_of_ble_eq_true rfl⟩ ⟨rfl, rfl, rfl⟩
set_option maxHeartbeats 4000000 in
set_option maxRecDepth 100000 in
theorem c_X6_end_0 {l : Launch} {Δ : zDl} {ad : zK → Nat} {P : zP} {S : zS} {X : zMem} {x b : Int} (hP : zWP P) (hW : zWS P S) (hx : 0 ≤ x ∧ x < 4) (h1 : ¬ S (3, 0, 0, 0) x = 0) (hb : zR b) (hb2 : b = 0) : zMn l Δ yX6_end cX6_end 5 (some .int) 9 0 0 [.ref (ad (0, 0, 0, 0)), .int (zI x), .int (zI b)] ad (mm Δ ad P S X) (zD (some (.int (zI ((lp (zse1 P x 1) 0 (P 0 0 0) (zst S (3, 0, 0, 0) x 0, 0)).2)))) ad (mm Δ ad P (zkA P (lp (zse1 P x 1) 0 (P 0 0 0) (zst S (3, 0, 0, 0) x 0, 0)).1) X)) := by
  refine zMn_of (by decide) (Nat.le_of_ble_eq_true rfl) (fun Γ hl hΔ hF => ?_)
  subst hl hΔ
  show G Γ _ _ _ RX6 _ _ _ _ _ [(0, .ref (ad (0, 0, 0, 0))), (1, .int (zI x)), (2, .int (zI b))] []
  have hS := hW.R
  have hN := hP.n
  have hk := hW.k
  have hl := hW.l
  refine G_iload_n (pc := 0) 1 1 dX6_end_0 rfl rfl ?_
  refine G_callSv (pc := 1) gk_X6_79 dX6_end_1 (c_X6_refuseOtherProducers (by first | assumption | omega | exact ⟨by omega, by omega⟩ | exact hS _ _ | exact hT _ _)) rfl rfl (Nat.le_of_ble_eq_true rfl) ⟨⟨Nat.le_of_ble_eq_true rfl, Nat.le_of_ble_eq_true rfl⟩, Nat.le_of_ble_eq_true rfl, Nat.le_of_ble_eq_true rfl⟩ ?_
  refine G_aload_n (pc := 4) 0 0 dX6_end_4 rfl rfl ?_
  refine G_getf (pc := 5) fl_X6_26 dX6_end_5 mg_0 rfl ?_
  refine G_iload_n (pc := 8) 1 1 dX6_end_8 rfl rfl ?_
  refine G_zald (pc := 9) dX6_end_9 mg_3 ⟨by omega, by omega, by omega, by omega⟩ ?_
  refine G_if_ne (pc := 10) 23 dX6_end_10 (by decide) (by first | exact hS _ _ | exact hT _ _ | exact ⟨by omega, by omega⟩ | assumption) (fun c10 => ?_) (fun c10 => ?_)
  · refine G_aload_n (pc := 23) 0 0 dX6_end_23 rfl rfl ?_
    refine G_getf (pc := 24) fl_X6_26 dX6_end_24 mg_0 rfl ?_
    refine G_iload_n (pc := 27) 1 1 dX6_end_27 rfl rfl ?_
    refine G_iconst (pc := 28) dX6_end_28 ?_
    refine G_zast (pc := 29) dX6_end_29 mg_3 ⟨by omega, by omega, by omega, by omega⟩ (by first | exact zb_ite | omega) (mp_3 _ _) ?_
    refine G_name (fun S1_29 hS1_29 => ?_)
    refine G_iconst (pc := 30) dX6_end_30 ?_
    refine G_istore_ne (pc := 31) 3 (fun zw => [(3, .int (zI zw)), (0, .ref (ad (0, 0, 0, 0))), (1, .int (zI x)), (2, .int (zI b))]) dX6_end_31 rfl (by decide) (fun _ => rfl) (fun v31 e31 => ?_)
    refine G_iconst (pc := 32) dX6_end_32 ?_
    refine G_istore_e (pc := 33) (fun zw => [(4, .int (zI zw)), (3, .int (zI v31)), (0, .ref (ad (0, 0, 0, 0))), (1, .int (zI x)), (2, .int (zI b))]) dX6_end_33 (by decide) (fun _ => rfl) (fun v33 e33 => ?_)
    have L35 : ∀ (n : Nat) (m : Int) (t : Int) (T : zS), ((0 ≤ t ∧ t ≤ P 0 0 0) ∧ lp (zse1 P x 1) t (P 0 0 0) (T, m) = lp (zse1 P x 1) 0 (P 0 0 0) (zst S (3, 0, 0, 0) x 0, 0) ∧ zWS P T) → (P 0 0 0 - t).toNat < n → G Γ (zRm 9 0 0) cX6_end 5 RX6 ad (mm (z_d Γ) ad P T X) 0 0 35 [(0, .ref (ad (0, 0, 0, 0))), (1, .int (zI x)), (2, .int (zI b)), (3, .int (zI m)), (4, .int (zI t))] [] := by
      intro n
      induction n with
      | zero => intro m t T _ hn; omega
      | succ n ih35 =>
        intro m t T hi35 hn35
        obtain ⟨ht0, hq, hTW⟩ := hi35
        have hTR := hTW.R
        refine G_iload (pc := 35) 4 dX6_end_35 rfl ?_
        refine G_aload_n (pc := 37) 0 0 dX6_end_37 rfl rfl ?_
        refine G_getf (pc := 38) fl_X6_10 dX6_end_38 mg_0 rfl ?_
        refine G_callVd (pc := 41) gk_X6_57 dX6_end_41 mg_4 rfl (c_AL_size_4 ) rfl rfl (Nat.le_of_ble_eq_true rfl) ⟨⟨Nat.le_of_ble_eq_true rfl, Nat.le_of_ble_eq_true rfl⟩, Nat.le_of_ble_eq_true rfl, Nat.le_of_ble_eq_true rfl⟩ ?_
        refine G_icmp_ge (pc := 44) 81 dX6_end_44 (by decide) (by first | exact hS _ _ | exact hT _ _ | exact ⟨by omega, by omega⟩ | assumption) (by first | exact hS _ _ | exact hT _ _ | exact ⟨by omega, by omega⟩ | assumption) (fun c44 => ?_) (fun c44 => ?_)
        · have hz := hq
          rw [lp_end (a := t) (by omega)] at hz
          refine G_aload_n (pc := 81) 0 0 dX6_end_81 rfl rfl ?_
          refine G_callVv (pc := 82) gk_X6_119 dX6_end_82 mg_0 rfl (c_X6_keepUpGroups (by first | assumption | omega | exact ⟨by omega, by omega⟩ | exact hS _ _ | exact hT _ _) (by first | assumption | omega | exact ⟨by omega, by omega⟩ | exact hS _ _ | exact hT _ _)) rfl rfl (Nat.le_of_ble_eq_true rfl) ⟨⟨Nat.le_of_ble_eq_true rfl, Nat.le_of_ble_eq_true rfl⟩, Nat.le_of_ble_eq_true rfl, Nat.le_of_ble_eq_true rfl⟩ ?_
          refine G_name (fun S2_82 hS2_82 => ?_)
          refine G_iload_n (pc := 85) 3 3 dX6_end_85 rfl rfl ?_
          exact G_iret_m (pc := 86) hF dX6_end_86 ⟨Nat.le_of_ble_eq_true rfl, Nat.le_of_ble_eq_true rfl⟩ (by rw [← hz]) (by rw [hS2_82, ← hz])
        · refine G_iload_n (pc := 47) 3 3 dX6_end_47 rfl rfl ?_
          refine G_aload_n (pc := 48) 0 0 dX6_end_48 rfl rfl ?_
          refine G_getf (pc := 49) fl_X6_10 dX6_end_49 mg_0 rfl ?_
          refine G_iload (pc := 52) 4 dX6_end_52 rfl ?_
          refine G_callVd (pc := 54) gk_X6_111 dX6_end_54 mg_4 rfl (c_AL_get_4 (by first | assumption | omega | exact ⟨by omega, by omega⟩ | exact hS _ _ | exact hT _ _) (by first | assumption | omega | exact ⟨by omega, by omega⟩ | exact hS _ _ | exact hT _ _)) rfl rfl (Nat.le_of_ble_eq_true rfl) ⟨⟨Nat.le_of_ble_eq_true rfl, Nat.le_of_ble_eq_true rfl⟩, Nat.le_of_ble_eq_true rfl, Nat.le_of_ble_eq_true rfl⟩ ?_
          refine G_cast (pc := 57) ct_X6_66 dX6_end_57 (mg_8 (by first | assumption | omega | exact ⟨by omega, by omega⟩ | exact hS _ _ | exact hT _ _)) ?_
          refine G_iload_n (pc := 60) 1 1 dX6_end_60 rfl rfl ?_
          refine G_iload_n (pc := 61) 2 2 dX6_end_61 rfl rfl ?_
          refine G_if_eq (pc := 62) 69 dX6_end_62 (by decide) (by first | exact hS _ _ | exact hT _ _ | exact ⟨by omega, by omega⟩ | assumption) (fun c62 => ?_) (fun c62 => ?_)
          · refine G_iconst (pc := 69) dX6_end_69 ?_
            refine G_callVd (pc := 70) gk_X6_115 dX6_end_70 (mg_8 (by first | assumption | omega | exact ⟨by omega, by omega⟩ | exact hS _ _ | exact hT _ _)) rfl (c_X5_settlePending (by first | assumption | omega | exact ⟨by omega, by omega⟩ | exact hS _ _ | exact hT _ _) (by first | assumption | omega | exact ⟨by omega, by omega⟩ | exact hS _ _ | exact hT _ _) (by first | assumption | omega | exact ⟨by omega, by omega⟩ | exact hS _ _ | exact hT _ _) (by first | assumption | omega | exact ⟨by omega, by omega⟩ | exact hS _ _ | exact hT _ _) (by first | assumption | omega | exact ⟨by omega, by omega⟩ | exact hS _ _ | exact hT _ _)) rfl rfl (Nat.le_of_ble_eq_true rfl) ⟨⟨Nat.le_of_ble_eq_true rfl, Nat.le_of_ble_eq_true rfl⟩, Nat.le_of_ble_eq_true rfl, Nat.le_of_ble_eq_true rfl⟩ ?_
            refine G_name (fun S3_70 hS3_70 => ?_)
            refine G_iadd (pc := 73) dX6_end_73 ?_
            refine G_istore_ne (pc := 74) 3 (fun zw => [(3, .int (zI zw)), (0, .ref (ad (0, 0, 0, 0))), (1, .int (zI x)), (2, .int (zI b)), (4, .int (zI t))]) dX6_end_74 rfl (by decide) (fun _ => rfl) (fun v74 e74 => ?_)
            refine G_iinc_e (pc := 75) 4 (fun zw => [(4, .int (zI zw)), (3, .int (zI v74)), (0, .ref (ad (0, 0, 0, 0))), (1, .int (zI x)), (2, .int (zI b))]) dX6_end_75 rfl (by decide) (fun _ => rfl) (fun v75 e75 => ?_)
            refine G_goto (pc := 78) 35 dX6_end_78 (by decide) ?_
            refine G_perm (lv' := [(0, .ref (ad (0, 0, 0, 0))), (1, .int (zI x)), (2, .int (zI b)), (3, .int (zI v74)), (4, .int (zI v75))]) [2, 3, 4, 1, 0] rfl ?_
            exact ih35 v74 v75 S3_70 ⟨by omega, by rw [e75, ← hq, lp_step (a := t) (n := P 0 0 0) (by omega), show zse1 P x 1 t (T, m) = (S3_70, v74) by rw [hS3_70, e74]; rfl], by rw [hS3_70]; exact zse1_W (m := m) hP (y := 1) ⟨by omega, by omega⟩ ⟨by omega, by omega⟩ hTW⟩ (by omega)
          · exfalso
            omega
    refine G_perm (lv' := [(0, .ref (ad (0, 0, 0, 0))), (1, .int (zI x)), (2, .int (zI b)), (3, .int (zI v31)), (4, .int (zI v33))]) [2, 3, 4, 1, 0] rfl ?_
    exact L35 _ v31 v33 S1_29 ⟨by omega, by rw [e31, e33, hS1_29], by rw [hS1_29]; exact hW.sf ⟨by omega, by omega⟩ (by decide)⟩ (Nat.lt_succ_self _)
  · exfalso
    omega
set_option maxHeartbeats 4000000 in
set_option maxRecDepth 100000 in
theorem c_X6_end_1 {l : Launch} {Δ : zDl} {ad : zK → Nat} {P : zP} {S : zS} {X : zMem} {x b : Int} (hP : zWP P) (hW : zWS P S) (hx : 0 ≤ x ∧ x < 4) (h1 : ¬ S (3, 0, 0, 0) x = 0) (hb : zR b) (hb2 : ¬ b = 0) : zMn l Δ yX6_end cX6_end 5 (some .int) 9 0 0 [.ref (ad (0, 0, 0, 0)), .int (zI x), .int (zI b)] ad (mm Δ ad P S X) (zD (some (.int (zI ((lp (zse1 P x 0) 0 (P 0 0 0) (zst S (3, 0, 0, 0) x 0, 0)).2)))) ad (mm Δ ad P (zkA P (lp (zse1 P x 0) 0 (P 0 0 0) (zst S (3, 0, 0, 0) x 0, 0)).1) X)) := by
  refine zMn_of (by decide) (Nat.le_of_ble_eq_true rfl) (fun Γ hl hΔ hF => ?_)
  subst hl hΔ
  show G Γ _ _ _ RX6 _ _ _ _ _ [(0, .ref (ad (0, 0, 0, 0))), (1, .int (zI x)), (2, .int (zI b))] []
  have hS := hW.R
  have hN := hP.n
  have hk := hW.k
  have hl := hW.l
  refine G_iload_n (pc := 0) 1 1 dX6_end_0 rfl rfl ?_
  refine G_callSv (pc := 1) gk_X6_79 dX6_end_1 (c_X6_refuseOtherProducers (by first | assumption | omega | exact ⟨by omega, by omega⟩ | exact hS _ _ | exact hT _ _)) rfl rfl (Nat.le_of_ble_eq_true rfl) ⟨⟨Nat.le_of_ble_eq_true rfl, Nat.le_of_ble_eq_true rfl⟩, Nat.le_of_ble_eq_true rfl, Nat.le_of_ble_eq_true rfl⟩ ?_
  refine G_aload_n (pc := 4) 0 0 dX6_end_4 rfl rfl ?_
  refine G_getf (pc := 5) fl_X6_26 dX6_end_5 mg_0 rfl ?_
  refine G_iload_n (pc := 8) 1 1 dX6_end_8 rfl rfl ?_
  refine G_zald (pc := 9) dX6_end_9 mg_3 ⟨by omega, by omega, by omega, by omega⟩ ?_
  refine G_if_ne (pc := 10) 23 dX6_end_10 (by decide) (by first | exact hS _ _ | exact hT _ _ | exact ⟨by omega, by omega⟩ | assumption) (fun c10 => ?_) (fun c10 => ?_)
  · refine G_aload_n (pc := 23) 0 0 dX6_end_23 rfl rfl ?_
    refine G_getf (pc := 24) fl_X6_26 dX6_end_24 mg_0 rfl ?_
    refine G_iload_n (pc := 27) 1 1 dX6_end_27 rfl rfl ?_
    refine G_iconst (pc := 28) dX6_end_28 ?_
    refine G_zast (pc := 29) dX6_end_29 mg_3 ⟨by omega, by omega, by omega, by omega⟩ (by first | exact zb_ite | omega) (mp_3 _ _) ?_
    refine G_name (fun S1_29 hS1_29 => ?_)
    refine G_iconst (pc := 30) dX6_end_30 ?_
    refine G_istore_ne (pc := 31) 3 (fun zw => [(3, .int (zI zw)), (0, .ref (ad (0, 0, 0, 0))), (1, .int (zI x)), (2, .int (zI b))]) dX6_end_31 rfl (by decide) (fun _ => rfl) (fun v31 e31 => ?_)
    refine G_iconst (pc := 32) dX6_end_32 ?_
    refine G_istore_e (pc := 33) (fun zw => [(4, .int (zI zw)), (3, .int (zI v31)), (0, .ref (ad (0, 0, 0, 0))), (1, .int (zI x)), (2, .int (zI b))]) dX6_end_33 (by decide) (fun _ => rfl) (fun v33 e33 => ?_)
    have L35 : ∀ (n : Nat) (m : Int) (t : Int) (T : zS), ((0 ≤ t ∧ t ≤ P 0 0 0) ∧ lp (zse1 P x 0) t (P 0 0 0) (T, m) = lp (zse1 P x 0) 0 (P 0 0 0) (zst S (3, 0, 0, 0) x 0, 0) ∧ zWS P T) → (P 0 0 0 - t).toNat < n → G Γ (zRm 9 0 0) cX6_end 5 RX6 ad (mm (z_d Γ) ad P T X) 0 0 35 [(0, .ref (ad (0, 0, 0, 0))), (1, .int (zI x)), (2, .int (zI b)), (3, .int (zI m)), (4, .int (zI t))] [] := by
      intro n
      induction n with
      | zero => intro m t T _ hn; omega
      | succ n ih35 =>
        intro m t T hi35 hn35
        obtain ⟨ht0, hq, hTW⟩ := hi35
        have hTR := hTW.R
        refine G_iload (pc := 35) 4 dX6_end_35 rfl ?_
        refine G_aload_n (pc := 37) 0 0 dX6_end_37 rfl rfl ?_
        refine G_getf (pc := 38) fl_X6_10 dX6_end_38 mg_0 rfl ?_
        refine G_callVd (pc := 41) gk_X6_57 dX6_end_41 mg_4 rfl (c_AL_size_4 ) rfl rfl (Nat.le_of_ble_eq_true rfl) ⟨⟨Nat.le_of_ble_eq_true rfl, Nat.le_of_ble_eq_true rfl⟩, Nat.le_of_ble_eq_true rfl, Nat.le_of_ble_eq_true rfl⟩ ?_
        refine G_icmp_ge (pc := 44) 81 dX6_end_44 (by decide) (by first | exact hS _ _ | exact hT _ _ | exact ⟨by omega, by omega⟩ | assumption) (by first | exact hS _ _ | exact hT _ _ | exact ⟨by omega, by omega⟩ | assumption) (fun c44 => ?_) (fun c44 => ?_)
        · have hz := hq
          rw [lp_end (a := t) (by omega)] at hz
          refine G_aload_n (pc := 81) 0 0 dX6_end_81 rfl rfl ?_
          refine G_callVv (pc := 82) gk_X6_119 dX6_end_82 mg_0 rfl (c_X6_keepUpGroups (by first | assumption | omega | exact ⟨by omega, by omega⟩ | exact hS _ _ | exact hT _ _) (by first | assumption | omega | exact ⟨by omega, by omega⟩ | exact hS _ _ | exact hT _ _)) rfl rfl (Nat.le_of_ble_eq_true rfl) ⟨⟨Nat.le_of_ble_eq_true rfl, Nat.le_of_ble_eq_true rfl⟩, Nat.le_of_ble_eq_true rfl, Nat.le_of_ble_eq_true rfl⟩ ?_
          refine G_name (fun S2_82 hS2_82 => ?_)
          refine G_iload_n (pc := 85) 3 3 dX6_end_85 rfl rfl ?_
          exact G_iret_m (pc := 86) hF dX6_end_86 ⟨Nat.le_of_ble_eq_true rfl, Nat.le_of_ble_eq_true rfl⟩ (by rw [← hz]) (by rw [hS2_82, ← hz])
        · refine G_iload_n (pc := 47) 3 3 dX6_end_47 rfl rfl ?_
          refine G_aload_n (pc := 48) 0 0 dX6_end_48 rfl rfl ?_
          refine G_getf (pc := 49) fl_X6_10 dX6_end_49 mg_0 rfl ?_
          refine G_iload (pc := 52) 4 dX6_end_52 rfl ?_
          refine G_callVd (pc := 54) gk_X6_111 dX6_end_54 mg_4 rfl (c_AL_get_4 (by first | assumption | omega | exact ⟨by omega, by omega⟩ | exact hS _ _ | exact hT _ _) (by first | assumption | omega | exact ⟨by omega, by omega⟩ | exact hS _ _ | exact hT _ _)) rfl rfl (Nat.le_of_ble_eq_true rfl) ⟨⟨Nat.le_of_ble_eq_true rfl, Nat.le_of_ble_eq_true rfl⟩, Nat.le_of_ble_eq_true rfl, Nat.le_of_ble_eq_true rfl⟩ ?_
          refine G_cast (pc := 57) ct_X6_66 dX6_end_57 (mg_8 (by first | assumption | omega | exact ⟨by omega, by omega⟩ | exact hS _ _ | exact hT _ _)) ?_
          refine G_iload_n (pc := 60) 1 1 dX6_end_60 rfl rfl ?_
          refine G_iload_n (pc := 61) 2 2 dX6_end_61 rfl rfl ?_
          refine G_if_eq (pc := 62) 69 dX6_end_62 (by decide) (by first | exact hS _ _ | exact hT _ _ | exact ⟨by omega, by omega⟩ | assumption) (fun c62 => ?_) (fun c62 => ?_)
          · exfalso
            omega
          · refine G_iconst (pc := 65) dX6_end_65 ?_
            refine G_goto (pc := 66) 70 dX6_end_66 (by decide) ?_
            refine G_callVd (pc := 70) gk_X6_115 dX6_end_70 (mg_8 (by first | assumption | omega | exact ⟨by omega, by omega⟩ | exact hS _ _ | exact hT _ _)) rfl (c_X5_settlePending (by first | assumption | omega | exact ⟨by omega, by omega⟩ | exact hS _ _ | exact hT _ _) (by first | assumption | omega | exact ⟨by omega, by omega⟩ | exact hS _ _ | exact hT _ _) (by first | assumption | omega | exact ⟨by omega, by omega⟩ | exact hS _ _ | exact hT _ _) (by first | assumption | omega | exact ⟨by omega, by omega⟩ | exact hS _ _ | exact hT _ _) (by first | assumption | omega | exact ⟨by omega, by omega⟩ | exact hS _ _ | exact hT _ _)) rfl rfl (Nat.le_of_ble_eq_true rfl) ⟨⟨Nat.le_of_ble_eq_true rfl, Nat.le_of_ble_eq_true rfl⟩, Nat.le_of_ble_eq_true rfl, Nat.le_of_ble_eq_true rfl⟩ ?_
            refine G_name (fun S3_70 hS3_70 => ?_)
            refine G_iadd (pc := 73) dX6_end_73 ?_
            refine G_istore_ne (pc := 74) 3 (fun zw => [(3, .int (zI zw)), (0, .ref (ad (0, 0, 0, 0))), (1, .int (zI x)), (2, .int (zI b)), (4, .int (zI t))]) dX6_end_74 rfl (by decide) (fun _ => rfl) (fun v74 e74 => ?_)
            refine G_iinc_e (pc := 75) 4 (fun zw => [(4, .int (zI zw)), (3, .int (zI v74)), (0, .ref (ad (0, 0, 0, 0))), (1, .int (zI x)), (2, .int (zI b))]) dX6_end_75 rfl (by decide) (fun _ => rfl) (fun v75 e75 => ?_)
            refine G_goto (pc := 78) 35 dX6_end_78 (by decide) ?_
            refine G_perm (lv' := [(0, .ref (ad (0, 0, 0, 0))), (1, .int (zI x)), (2, .int (zI b)), (3, .int (zI v74)), (4, .int (zI v75))]) [2, 3, 4, 1, 0] rfl ?_
            exact ih35 v74 v75 S3_70 ⟨by omega, by rw [e75, ← hq, lp_step (a := t) (n := P 0 0 0) (by omega), show zse1 P x 0 t (T, m) = (S3_70, v74) by rw [hS3_70, e74]; rfl], by rw [hS3_70]; exact zse1_W (m := m) hP (y := 0) ⟨by omega, by omega⟩ ⟨by omega, by omega⟩ hTW⟩ (by omega)
    refine G_perm (lv' := [(0, .ref (ad (0, 0, 0, 0))), (1, .int (zI x)), (2, .int (zI b)), (3, .int (zI v31)), (4, .int (zI v33))]) [2, 3, 4, 1, 0] rfl ?_
    exact L35 _ v31 v33 S1_29 ⟨by omega, by rw [e31, e33, hS1_29], by rw [hS1_29]; exact hW.sf ⟨by omega, by omega⟩ (by decide)⟩ (Nat.lt_succ_self _)
  · exfalso
    omega
set_option maxHeartbeats 4000000 in
set_option maxRecDepth 100000 in
theorem c_X6_end_x {l : Launch} {Δ : zDl} {ad : zK → Nat} {P : zP} {S : zS} {X : zMem} {x b : Int} (hP : zWP P) (hW : zWS P S) (hr : zR x) (hn : ¬ (0 ≤ x ∧ x < 4)) (hst : l.stackTraces = false) : zMx l Δ yX6_end cX6_end 5 (some .int) 9 1 6 [.ref (ad (0, 0, 0, 0)), .int (zI x), .int (zI b)] ad (mm Δ ad P S X) zF0 (zE "java/lang/IndexOutOfBoundsException" ad (mm Δ ad P S X)) := by
  refine zMx_of hst (by decide) (Nat.le_of_ble_eq_true rfl) (fun Γ hl hΔ hF hX => ?_)
  subst hl hΔ
  show G Γ _ _ _ RX6 _ _ _ _ _ [(0, .ref (ad (0, 0, 0, 0))), (1, .int (zI x)), (2, .int (zI b))] []
  refine G_iload_n (pc := 0) 1 1 dX6_end_0 rfl rfl ?_
  exact G_callSt (pc := 1) gk_X6_79 dX6_end_1 (c_X6_refuseOtherProducers_x (by first | assumption | omega | exact ⟨by omega, by omega⟩ | exact hS _ _ | exact hT _ _) (by first | assumption | omega | exact ⟨by omega, by omega⟩ | exact hS _ _ | exact hT _ _) hst) rfl rfl (Nat.le_of_ble_eq_true rfl) ⟨⟨Nat.le_of_ble_eq_true rfl, Nat.le_of_ble_eq_true rfl⟩, Nat.le_of_ble_eq_true rfl, Nat.le_of_ble_eq_true rfl⟩ hX ⟨Nat.le_of_ble_eq_true rfl, Nat.le_of_ble_eq_true rfl⟩ ⟨rfl, rfl, rfl⟩
set_option maxHeartbeats 4000000 in
set_option maxRecDepth 100000 in
theorem c_X6_end_y {l : Launch} {Δ : zDl} {ad : zK → Nat} {P : zP} {S : zS} {X : zMem} {x b : Int} (hP : zWP P) (hW : zWS P S) (hx : 0 ≤ x ∧ x < 4) (h0 : S (3, 0, 0, 0) x = 0) (hst : l.stackTraces = false) : zMx l Δ yX6_end cX6_end 5 (some .int) 9 1 6 [.ref (ad (0, 0, 0, 0)), .int (zI x), .int (zI b)] ad (mm Δ ad P S X) zF0 (zE "java/lang/IllegalStateException" ad (mm Δ ad P S X)) := by
  refine zMx_of hst (by decide) (Nat.le_of_ble_eq_true rfl) (fun Γ hl hΔ hF hX => ?_)
  subst hl hΔ
  show G Γ _ _ _ RX6 _ _ _ _ _ [(0, .ref (ad (0, 0, 0, 0))), (1, .int (zI x)), (2, .int (zI b))] []
  have hS := hW.R
  have hN := hP.n
  have hk := hW.k
  have hl := hW.l
  refine G_iload_n (pc := 0) 1 1 dX6_end_0 rfl rfl ?_
  refine G_callSv (pc := 1) gk_X6_79 dX6_end_1 (c_X6_refuseOtherProducers (by first | assumption | omega | exact ⟨by omega, by omega⟩ | exact hS _ _ | exact hT _ _)) rfl rfl (Nat.le_of_ble_eq_true rfl) ⟨⟨Nat.le_of_ble_eq_true rfl, Nat.le_of_ble_eq_true rfl⟩, Nat.le_of_ble_eq_true rfl, Nat.le_of_ble_eq_true rfl⟩ ?_
  refine G_aload_n (pc := 4) 0 0 dX6_end_4 rfl rfl ?_
  refine G_getf (pc := 5) fl_X6_26 dX6_end_5 mg_0 rfl ?_
  refine G_iload_n (pc := 8) 1 1 dX6_end_8 rfl rfl ?_
  refine G_zald (pc := 9) dX6_end_9 mg_3 ⟨by omega, by omega, by omega, by omega⟩ ?_
  refine G_if_ne (pc := 10) 23 dX6_end_10 (by decide) (by first | exact hS _ _ | exact hT _ _ | exact ⟨by omega, by omega⟩ | assumption) (fun c10 => ?_) (fun c10 => ?_)
  · exfalso
    omega
  · exact G_throw (text := "it has no transaction") hX tw_65 rfl (by decide) dX6_end_13 dX6_end_16 dX6_end_17 dX6_end_19 dX6_end_22 ⟨⟨Nat.le_of_ble_eq_true rfl, Nat.le_of_ble_eq_true rfl⟩, Nat.le_of_ble_eq_true rfl, Nat.le_of_ble_eq_true rfl⟩ ⟨Nat.le_of_ble_eq_true rfl, Nat.le_of_ble_eq_true rfl⟩ ⟨rfl, rfl, rfl⟩
set_option maxHeartbeats 4000000 in
set_option maxRecDepth 100000 in
theorem c_X6_clean {l : Launch} {Δ : zDl} {ad : zK → Nat} {P : zP} {S : zS} {X : zMem} {t : Int} (hP : zWP P) (ht : 0 ≤ t ∧ t < P 0 0 0) (hW : zWS P S) (h1 : ¬ S (8, t, 0, 0) 1 = 0) : zMn l Δ yX6_clean cX6_clean 4 (some .int) 9 0 0 [.ref (ad (0, 0, 0, 0)), .int (zI t)] ad (mm Δ ad P S X) (zD (some (.int (zI ((lp (ztr P t) 0 (P 1 t 0) (S, 0)).2)))) ad (mm Δ ad P (zkA P (lp (ztr P t) 0 (P 1 t 0) (S, 0)).1) X)) := by
  refine zMn_of (by decide) (Nat.le_of_ble_eq_true rfl) (fun Γ hl hΔ hF => ?_)
  subst hl hΔ
  show G Γ _ _ _ RX6 _ _ _ _ _ [(0, .ref (ad (0, 0, 0, 0))), (1, .int (zI t))] []
  have hS := hW.R
  have hN := hP.n
  have hk := hW.k
  have hl := hW.l
  have hT := hP.t ht
  have hW2 := ztr_W hP ht (m := 0) hW
  refine G_aload_n (pc := 0) 0 0 dX6_clean_0 rfl rfl ?_
  refine G_iload_n (pc := 1) 1 1 dX6_clean_1 rfl rfl ?_
  refine G_callVd (pc := 2) gk_X6_75 dX6_clean_2 mg_0 rfl (c_X6_topicAt (by first | assumption | omega | exact ⟨by omega, by omega⟩ | exact hS _ _ | exact hT _ _) (by first | assumption | omega | exact ⟨by omega, by omega⟩ | exact hS _ _ | exact hT _ _)) rfl rfl (Nat.le_of_ble_eq_true rfl) ⟨⟨Nat.le_of_ble_eq_true rfl, Nat.le_of_ble_eq_true rfl⟩, Nat.le_of_ble_eq_true rfl, Nat.le_of_ble_eq_true rfl⟩ ?_
  refine G_astore_n (pc := 5) 2 [(2, .ref (ad (8, t, 0, 0))), (0, .ref (ad (0, 0, 0, 0))), (1, .int (zI t))] dX6_clean_5 rfl (by decide) rfl ?_
  refine G_aload_n (pc := 6) 2 0 dX6_clean_6 rfl rfl ?_
  refine G_getf (pc := 7) fl_X6_127 dX6_clean_7 (mg_8 (by first | assumption | omega | exact ⟨by omega, by omega⟩ | exact hS _ _ | exact hT _ _)) rfl ?_
  refine G_if_ne (pc := 10) 23 dX6_clean_10 (by decide) (by first | exact hS _ _ | exact hT _ _ | exact ⟨by omega, by omega⟩ | assumption) (fun c10 => ?_) (fun c10 => ?_)
  · refine G_aload_n (pc := 23) 2 0 dX6_clean_23 rfl rfl ?_
    refine G_callVd (pc := 24) gk_X6_133 dX6_clean_24 (mg_8 (by first | assumption | omega | exact ⟨by omega, by omega⟩ | exact hS _ _ | exact hT _ _)) rfl (c_X5_dropOutdated (by first | assumption | omega | exact ⟨by omega, by omega⟩ | exact hS _ _ | exact hT _ _) (by first | assumption | omega | exact ⟨by omega, by omega⟩ | exact hS _ _ | exact hT _ _) (by first | assumption | omega | exact ⟨by omega, by omega⟩ | exact hS _ _ | exact hT _ _)) rfl rfl (Nat.le_of_ble_eq_true rfl) ⟨⟨Nat.le_of_ble_eq_true rfl, Nat.le_of_ble_eq_true rfl⟩, Nat.le_of_ble_eq_true rfl, Nat.le_of_ble_eq_true rfl⟩ ?_
    refine G_name (fun S1_24 hS1_24 => ?_)
    refine G_istore_ne (pc := 27) 3 (fun zw => [(3, .int (zI zw)), (2, .ref (ad (8, t, 0, 0))), (0, .ref (ad (0, 0, 0, 0))), (1, .int (zI t))]) dX6_clean_27 rfl (by decide) (fun _ => rfl) (fun v27 e27 => ?_)
    rw [← hS1_24] at hW2
    refine G_aload_n (pc := 28) 0 2 dX6_clean_28 rfl rfl ?_
    refine G_callVv (pc := 29) gk_X6_119 dX6_clean_29 mg_0 rfl (c_X6_keepUpGroups (by first | assumption | omega | exact ⟨by omega, by omega⟩ | exact hS _ _ | exact hT _ _) (by first | assumption | omega | exact ⟨by omega, by omega⟩ | exact hS _ _ | exact hT _ _)) rfl rfl (Nat.le_of_ble_eq_true rfl) ⟨⟨Nat.le_of_ble_eq_true rfl, Nat.le_of_ble_eq_true rfl⟩, Nat.le_of_ble_eq_true rfl, Nat.le_of_ble_eq_true rfl⟩ ?_
    refine G_name (fun S2_29 hS2_29 => ?_)
    refine G_iload_n (pc := 32) 3 0 dX6_clean_32 rfl rfl ?_
    exact G_iret_m (pc := 33) hF dX6_clean_33 ⟨Nat.le_of_ble_eq_true rfl, Nat.le_of_ble_eq_true rfl⟩ (by first | rfl | omega | simp_all) (by rw [hS2_29, hS1_24])
  · exfalso
    omega
set_option maxHeartbeats 4000000 in
set_option maxRecDepth 100000 in
theorem c_X6_clean_x {l : Launch} {Δ : zDl} {ad : zK → Nat} {P : zP} {S : zS} {X : zMem} {t : Int} (hP : zWP P) (hW : zWS P S) (hr : zR t) (hn : ¬ (0 ≤ t ∧ t < P 0 0 0)) (hst : l.stackTraces = false) : zMx l Δ yX6_clean cX6_clean 4 (some .int) 9 1 6 [.ref (ad (0, 0, 0, 0)), .int (zI t)] ad (mm Δ ad P S X) zF0 (zE "java/lang/IndexOutOfBoundsException" ad (mm Δ ad P S X)) := by
  refine zMx_of hst (by decide) (Nat.le_of_ble_eq_true rfl) (fun Γ hl hΔ hF hX => ?_)
  subst hl hΔ
  show G Γ _ _ _ RX6 _ _ _ _ _ [(0, .ref (ad (0, 0, 0, 0))), (1, .int (zI t))] []
  refine G_aload_n (pc := 0) 0 0 dX6_clean_0 rfl rfl ?_
  refine G_iload_n (pc := 1) 1 1 dX6_clean_1 rfl rfl ?_
  exact G_callVt (pc := 2) gk_X6_75 dX6_clean_2 mg_0 rfl (c_X6_topicAt_x (by first | assumption | omega | exact ⟨by omega, by omega⟩ | exact hS _ _ | exact hT _ _) (by first | assumption | omega | exact ⟨by omega, by omega⟩ | exact hS _ _ | exact hT _ _) (by first | assumption | omega | exact ⟨by omega, by omega⟩ | exact hS _ _ | exact hT _ _) hst) rfl rfl (Nat.le_of_ble_eq_true rfl) ⟨⟨Nat.le_of_ble_eq_true rfl, Nat.le_of_ble_eq_true rfl⟩, Nat.le_of_ble_eq_true rfl, Nat.le_of_ble_eq_true rfl⟩ hX ⟨Nat.le_of_ble_eq_true rfl, Nat.le_of_ble_eq_true rfl⟩ ⟨rfl, rfl, rfl⟩
set_option maxHeartbeats 4000000 in
set_option maxRecDepth 100000 in
theorem c_X6_clean_y {l : Launch} {Δ : zDl} {ad : zK → Nat} {P : zP} {S : zS} {X : zMem} {t : Int} (hP : zWP P) (ht : 0 ≤ t ∧ t < P 0 0 0) (hW : zWS P S) (h1 : S (8, t, 0, 0) 1 = 0) (hst : l.stackTraces = false) : zMx l Δ yX6_clean cX6_clean 4 (some .int) 9 1 6 [.ref (ad (0, 0, 0, 0)), .int (zI t)] ad (mm Δ ad P S X) zF0 (zE "java/lang/IllegalStateException" ad (mm Δ ad P S X)) := by
  refine zMx_of hst (by decide) (Nat.le_of_ble_eq_true rfl) (fun Γ hl hΔ hF hX => ?_)
  subst hl hΔ
  show G Γ _ _ _ RX6 _ _ _ _ _ [(0, .ref (ad (0, 0, 0, 0))), (1, .int (zI t))] []
  have hS := hW.R
  have hN := hP.n
  have hk := hW.k
  have hl := hW.l
  have hT := hP.t ht
  refine G_aload_n (pc := 0) 0 0 dX6_clean_0 rfl rfl ?_
  refine G_iload_n (pc := 1) 1 1 dX6_clean_1 rfl rfl ?_
  refine G_callVd (pc := 2) gk_X6_75 dX6_clean_2 mg_0 rfl (c_X6_topicAt (by first | assumption | omega | exact ⟨by omega, by omega⟩ | exact hS _ _ | exact hT _ _) (by first | assumption | omega | exact ⟨by omega, by omega⟩ | exact hS _ _ | exact hT _ _)) rfl rfl (Nat.le_of_ble_eq_true rfl) ⟨⟨Nat.le_of_ble_eq_true rfl, Nat.le_of_ble_eq_true rfl⟩, Nat.le_of_ble_eq_true rfl, Nat.le_of_ble_eq_true rfl⟩ ?_
  refine G_astore_n (pc := 5) 2 [(2, .ref (ad (8, t, 0, 0))), (0, .ref (ad (0, 0, 0, 0))), (1, .int (zI t))] dX6_clean_5 rfl (by decide) rfl ?_
  refine G_aload_n (pc := 6) 2 0 dX6_clean_6 rfl rfl ?_
  refine G_getf (pc := 7) fl_X6_127 dX6_clean_7 (mg_8 (by first | assumption | omega | exact ⟨by omega, by omega⟩ | exact hS _ _ | exact hT _ _)) rfl ?_
  refine G_if_ne (pc := 10) 23 dX6_clean_10 (by decide) (by first | exact hS _ _ | exact hT _ _ | exact ⟨by omega, by omega⟩ | assumption) (fun c10 => ?_) (fun c10 => ?_)
  · exfalso
    omega
  · exact G_throw (text := "the topic is not compact") hX tw_65 rfl (by decide) dX6_clean_13 dX6_clean_16 dX6_clean_17 dX6_clean_19 dX6_clean_22 ⟨⟨Nat.le_of_ble_eq_true rfl, Nat.le_of_ble_eq_true rfl⟩, Nat.le_of_ble_eq_true rfl, Nat.le_of_ble_eq_true rfl⟩ ⟨Nat.le_of_ble_eq_true rfl, Nat.le_of_ble_eq_true rfl⟩ ⟨rfl, rfl, rfl⟩
set_option maxHeartbeats 4000000 in
set_option maxRecDepth 100000 in
theorem c_X6_setPatience {l : Launch} {Δ : zDl} {ad : zK → Nat} {P : zP} {S : zS} {X : zMem} {x y : Int} (hP : zWP P) (hW : zWS P S) (hx : 1 ≤ x ∧ x ≤ 20) (hy : 1 ≤ y ∧ y ≤ 50) : zMn l Δ yX6_setPatience cX6_setPatience 4 (some .int) 9 0 0 [.ref (ad (0, 0, 0, 0)), .int (zI x), .int (zI y)] ad (mm Δ ad P S X) (zD (some (.int (zI (S (0, 0, 0, 0) 7)))) ad (mm Δ ad P (zst (zst S (0, 0, 0, 0) 7 x) (0, 0, 0, 0) 8 y) X)) := by
  refine zMn_of (by decide) (Nat.le_of_ble_eq_true rfl) (fun Γ hl hΔ hF => ?_)
  subst hl hΔ
  show G Γ _ _ _ RX6 _ _ _ _ _ [(0, .ref (ad (0, 0, 0, 0))), (1, .int (zI x)), (2, .int (zI y))] []
  have hS := hW.R
  have hN := hP.n
  have hk := hW.k
  have hl := hW.l
  refine G_iload_n (pc := 0) 1 1 dX6_setPatience_0 rfl rfl ?_
  refine G_iconst (pc := 1) dX6_setPatience_1 ?_
  refine G_bipush (pc := 2) dX6_setPatience_2 (by decide) ?_
  refine G_callSd (pc := 4) gk_X6_46 dX6_setPatience_4 (c_X6_isWithin (by first | assumption | omega | exact ⟨by omega, by omega⟩ | exact hS _ _ | exact hT _ _) (by first | assumption | omega | exact ⟨by omega, by omega⟩ | exact hS _ _ | exact hT _ _) (by first | assumption | omega | exact ⟨by omega, by omega⟩ | exact hS _ _ | exact hT _ _)) rfl rfl (Nat.le_of_ble_eq_true rfl) ⟨⟨Nat.le_of_ble_eq_true rfl, Nat.le_of_ble_eq_true rfl⟩, Nat.le_of_ble_eq_true rfl, Nat.le_of_ble_eq_true rfl⟩ ?_
  refine G_if_eq_b (pc := 7) 20 dX6_setPatience_7 (by decide) (fun c7 => ?_) (fun c7 => ?_)
  · exfalso
    omega
  · refine G_iload_n (pc := 10) 2 2 dX6_setPatience_10 rfl rfl ?_
    refine G_iconst (pc := 11) dX6_setPatience_11 ?_
    refine G_bipush (pc := 12) dX6_setPatience_12 (by decide) ?_
    refine G_callSd (pc := 14) gk_X6_46 dX6_setPatience_14 (c_X6_isWithin (by first | assumption | omega | exact ⟨by omega, by omega⟩ | exact hS _ _ | exact hT _ _) (by first | assumption | omega | exact ⟨by omega, by omega⟩ | exact hS _ _ | exact hT _ _) (by first | assumption | omega | exact ⟨by omega, by omega⟩ | exact hS _ _ | exact hT _ _)) rfl rfl (Nat.le_of_ble_eq_true rfl) ⟨⟨Nat.le_of_ble_eq_true rfl, Nat.le_of_ble_eq_true rfl⟩, Nat.le_of_ble_eq_true rfl, Nat.le_of_ble_eq_true rfl⟩ ?_
    refine G_if_ne_b (pc := 17) 30 dX6_setPatience_17 (by decide) (fun c17 => ?_) (fun c17 => ?_)
    · refine G_aload_n (pc := 30) 0 0 dX6_setPatience_30 rfl rfl ?_
      refine G_getf (pc := 31) fl_X6_40 dX6_setPatience_31 mg_0 rfl ?_
      refine G_istore_ne (pc := 34) 3 (fun zw => [(3, .int (zI zw)), (0, .ref (ad (0, 0, 0, 0))), (1, .int (zI x)), (2, .int (zI y))]) dX6_setPatience_34 rfl (by decide) (fun _ => rfl) (fun v34 e34 => ?_)
      refine G_aload_n (pc := 35) 0 1 dX6_setPatience_35 rfl rfl ?_
      refine G_iload_n (pc := 36) 1 2 dX6_setPatience_36 rfl rfl ?_
      refine G_putf (pc := 37) fl_X6_40 fp_X6_7 dX6_setPatience_37 mg_0 (Nat.le_of_ble_eq_true rfl) rfl rfl (mp_0_7 _) ?_
      refine G_name (fun S1_37 hS1_37 => ?_)
      refine G_aload_n (pc := 40) 0 1 dX6_setPatience_40 rfl rfl ?_
      refine G_iload_n (pc := 41) 2 3 dX6_setPatience_41 rfl rfl ?_
      refine G_putf (pc := 42) fl_X6_43 fp_X6_8 dX6_setPatience_42 mg_0 (Nat.le_of_ble_eq_true rfl) rfl rfl (mp_0_8 _) ?_
      refine G_name (fun S2_42 hS2_42 => ?_)
      refine G_iload_n (pc := 45) 3 0 dX6_setPatience_45 rfl rfl ?_
      exact G_iret_m (pc := 46) hF dX6_setPatience_46 ⟨Nat.le_of_ble_eq_true rfl, Nat.le_of_ble_eq_true rfl⟩ (by first | rfl | omega | simp_all) (by rw [hS2_42, hS1_37])
    · exfalso
      omega
set_option maxHeartbeats 4000000 in
set_option maxRecDepth 100000 in
theorem c_X6_setPatience_y {l : Launch} {Δ : zDl} {ad : zK → Nat} {P : zP} {S : zS} {X : zMem} {x y : Int} (hP : zWP P) (hW : zWS P S) (hr : zR x) (hq : zR y) (hn : ¬ ((1 ≤ x ∧ x ≤ 20) ∧ (1 ≤ y ∧ y ≤ 50))) (hst : l.stackTraces = false) : zMx l Δ yX6_setPatience cX6_setPatience 4 (some .int) 9 1 6 [.ref (ad (0, 0, 0, 0)), .int (zI x), .int (zI y)] ad (mm Δ ad P S X) zF0 (zE "java/lang/IllegalArgumentException" ad (mm Δ ad P S X)) := by
  refine zMx_of hst (by decide) (Nat.le_of_ble_eq_true rfl) (fun Γ hl hΔ hF hX => ?_)
  subst hl hΔ
  show G Γ _ _ _ RX6 _ _ _ _ _ [(0, .ref (ad (0, 0, 0, 0))), (1, .int (zI x)), (2, .int (zI y))] []
  have hS := hW.R
  have hN := hP.n
  have hk := hW.k
  have hl := hW.l
  refine G_iload_n (pc := 0) 1 1 dX6_setPatience_0 rfl rfl ?_
  refine G_iconst (pc := 1) dX6_setPatience_1 ?_
  refine G_bipush (pc := 2) dX6_setPatience_2 (by decide) ?_
  refine G_callSd (pc := 4) gk_X6_46 dX6_setPatience_4 (c_X6_isWithin (by first | assumption | omega | exact ⟨by omega, by omega⟩ | exact hS _ _ | exact hT _ _) (by first | assumption | omega | exact ⟨by omega, by omega⟩ | exact hS _ _ | exact hT _ _) (by first | assumption | omega | exact ⟨by omega, by omega⟩ | exact hS _ _ | exact hT _ _)) rfl rfl (Nat.le_of_ble_eq_true rfl) ⟨⟨Nat.le_of_ble_eq_true rfl, Nat.le_of_ble_eq_true rfl⟩, Nat.le_of_ble_eq_true rfl, Nat.le_of_ble_eq_true rfl⟩ ?_
  refine G_if_eq_b (pc := 7) 20 dX6_setPatience_7 (by decide) (fun c7 => ?_) (fun c7 => ?_)
  · exact G_throw (text := "delay is 1 to 20, patience 1 to 50") hX tw_54 rfl (by decide) dX6_setPatience_20 dX6_setPatience_23 dX6_setPatience_24 dX6_setPatience_26 dX6_setPatience_29 ⟨⟨Nat.le_of_ble_eq_true rfl, Nat.le_of_ble_eq_true rfl⟩, Nat.le_of_ble_eq_true rfl, Nat.le_of_ble_eq_true rfl⟩ ⟨Nat.le_of_ble_eq_true rfl, Nat.le_of_ble_eq_true rfl⟩ ⟨rfl, rfl, rfl⟩
  · refine G_iload_n (pc := 10) 2 2 dX6_setPatience_10 rfl rfl ?_
    refine G_iconst (pc := 11) dX6_setPatience_11 ?_
    refine G_bipush (pc := 12) dX6_setPatience_12 (by decide) ?_
    refine G_callSd (pc := 14) gk_X6_46 dX6_setPatience_14 (c_X6_isWithin (by first | assumption | omega | exact ⟨by omega, by omega⟩ | exact hS _ _ | exact hT _ _) (by first | assumption | omega | exact ⟨by omega, by omega⟩ | exact hS _ _ | exact hT _ _) (by first | assumption | omega | exact ⟨by omega, by omega⟩ | exact hS _ _ | exact hT _ _)) rfl rfl (Nat.le_of_ble_eq_true rfl) ⟨⟨Nat.le_of_ble_eq_true rfl, Nat.le_of_ble_eq_true rfl⟩, Nat.le_of_ble_eq_true rfl, Nat.le_of_ble_eq_true rfl⟩ ?_
    refine G_if_ne_b (pc := 17) 30 dX6_setPatience_17 (by decide) (fun c17 => ?_) (fun c17 => ?_)
    · exfalso
      omega
    · exact G_throw (text := "delay is 1 to 20, patience 1 to 50") hX tw_54 rfl (by decide) dX6_setPatience_20 dX6_setPatience_23 dX6_setPatience_24 dX6_setPatience_26 dX6_setPatience_29 ⟨⟨Nat.le_of_ble_eq_true rfl, Nat.le_of_ble_eq_true rfl⟩, Nat.le_of_ble_eq_true rfl, Nat.le_of_ble_eq_true rfl⟩ ⟨Nat.le_of_ble_eq_true rfl, Nat.le_of_ble_eq_true rfl⟩ ⟨rfl, rfl, rfl⟩
set_option maxHeartbeats 4000000 in
set_option maxRecDepth 100000 in
theorem c_X6_giveBack {l : Launch} {Δ : zDl} {ad : zK → Nat} {P : zP} {S : zS} {X : zMem} {g p o : Int} (hP : zWP P) (hg : 0 ≤ g ∧ g < P 3 0 0) (hp : 0 ≤ p ∧ p < P 1 (P 4 g 0) 0) (ho : 0 ≤ o ∧ o < 80) (hW : zWS P S) (h1 : 1 ≤ S (20, g, p, 0) o) : zMn l Δ yX6_giveBack cX6_giveBack 6 (some .int) 3 0 0 [.ref (ad (0, 0, 0, 0)), .int (zI g), .int (zI p), .ref (ad (18, g, p, 0)), .int (zI o)] ad (mm Δ ad P S X) (zD (some (.int (zI (zgbr S g p o (S (0, 0, 0, 0) 6) (S (0, 0, 0, 0) 7))))) ad (mm Δ ad P (zB S g p o) X)) := by
  refine zMn_of (by decide) (Nat.le_of_ble_eq_true rfl) (fun Γ hl hΔ hF => ?_)
  subst hl hΔ
  show G Γ _ _ _ RX6 _ _ _ _ _ [(0, .ref (ad (0, 0, 0, 0))), (1, .int (zI g)), (2, .int (zI p)), (3, .ref (ad (18, g, p, 0))), (4, .int (zI o))] []
  have hS := hW.R
  have hN := hP.n
  have hk := hW.k
  have hl := hW.l
  have hG := hP.g hg
  have hT := hP.t hG
  have hM := hP.m hG hp
  have hW5 := hW.m hg hp
  have hgn := zgbr_n (S := S) (g := g) (p := p) (o := o) hk.1.1 hk.2.1
  have hgl := zgbr_le (S := S) (g := g) (p := p) (o := o) hk.1 hk.2.1
  have hW1 := zgb_W (g := g) (p := p) (o := o) hk.1 hk.2.1 hW
  refine G_aload_n (pc := 0) 3 3 dX6_giveBack_0 rfl rfl ?_
  refine G_iload (pc := 1) 4 dX6_giveBack_1 rfl ?_
  refine G_aload_n (pc := 3) 0 0 dX6_giveBack_3 rfl rfl ?_
  refine G_getf (pc := 4) fl_X6_37 dX6_giveBack_4 mg_0 rfl ?_
  refine G_aload_n (pc := 7) 0 0 dX6_giveBack_7 rfl rfl ?_
  refine G_getf (pc := 8) fl_X6_40 dX6_giveBack_8 mg_0 rfl ?_
  refine G_callVd (pc := 11) gk_X6_323 dX6_giveBack_11 (mg_18 (by first | assumption | omega | exact ⟨by omega, by omega⟩ | exact hS _ _ | exact hT _ _)) rfl (c_X4_giveBack (by first | assumption | omega | exact ⟨by omega, by omega⟩ | exact hS _ _ | exact hT _ _) (by first | assumption | omega | exact ⟨by omega, by omega⟩ | exact hS _ _ | exact hT _ _) (by first | assumption | omega | exact ⟨by omega, by omega⟩ | exact hS _ _ | exact hT _ _) (by first | assumption | omega | exact ⟨by omega, by omega⟩ | exact hS _ _ | exact hT _ _) (by first | assumption | omega | exact ⟨by omega, by omega⟩ | exact hS _ _ | exact hT _ _) (by first | assumption | omega | exact ⟨by omega, by omega⟩ | exact hS _ _ | exact hT _ _) (by first | assumption | omega | exact ⟨by omega, by omega⟩ | exact hS _ _ | exact hT _ _)) rfl rfl (Nat.le_of_ble_eq_true rfl) ⟨⟨Nat.le_of_ble_eq_true rfl, Nat.le_of_ble_eq_true rfl⟩, Nat.le_of_ble_eq_true rfl, Nat.le_of_ble_eq_true rfl⟩ ?_
  refine G_name (fun S1_11 hS1_11 => ?_)
  refine G_istore_e (pc := 14) (fun zw => [(5, .int (zI zw)), (0, .ref (ad (0, 0, 0, 0))), (1, .int (zI g)), (2, .int (zI p)), (3, .ref (ad (18, g, p, 0))), (4, .int (zI o))]) dX6_giveBack_14 (by decide) (fun _ => rfl) (fun v14 e14 => ?_)
  rw [← hS1_11] at hW1
  have hz1 : S1_11 (0, 0, 0, 0) 6 = S (0, 0, 0, 0) 6 := by rw [hS1_11]; exact zgb_0
  refine G_aload_n (pc := 16) 0 1 dX6_giveBack_16 rfl rfl ?_
  refine G_getf (pc := 17) fl_X6_22 dX6_giveBack_17 mg_0 rfl ?_
  refine G_iconst (pc := 20) dX6_giveBack_20 ?_
  refine G_iload_n (pc := 21) 1 2 dX6_giveBack_21 rfl rfl ?_
  refine G_iload_n (pc := 22) 2 3 dX6_giveBack_22 rfl rfl ?_
  refine G_iload (pc := 23) 5 dX6_giveBack_23 rfl ?_
  refine G_aload_n (pc := 25) 0 1 dX6_giveBack_25 rfl rfl ?_
  refine G_getf (pc := 26) fl_X6_37 dX6_giveBack_26 mg_0 rfl ?_
  refine G_callVv (pc := 29) gk_X6_214 dX6_giveBack_29 mg_1 rfl (c_X1_write (by first | assumption | omega | exact ⟨by omega, by omega⟩ | exact hS _ _ | exact hT _ _)) rfl rfl (Nat.le_of_ble_eq_true rfl) ⟨⟨Nat.le_of_ble_eq_true rfl, Nat.le_of_ble_eq_true rfl⟩, Nat.le_of_ble_eq_true rfl, Nat.le_of_ble_eq_true rfl⟩ ?_
  refine G_name (fun S2_29 hS2_29 => ?_)
  have hW2 : zWS P S2_29 := by rw [hS2_29]; exact zlw_W ⟨by omega, by omega⟩ ⟨by omega, by omega⟩ ⟨by omega, by omega⟩ ⟨by omega, by omega⟩ (hW1.R _ _) hW1
  have hz2 : S2_29 (0, 0, 0, 0) 6 = S (0, 0, 0, 0) 6 := by rw [hS2_29, zlw_0]; exact hz1
  refine G_iload (pc := 32) 0 dX6_giveBack_32 rfl ?_
  refine G_iconst (pc := 34) dX6_giveBack_34 ?_
  refine G_icmp_ne (pc := 35) 54 dX6_giveBack_35 (by decide) (by first | exact hS _ _ | exact hT _ _ | exact ⟨by omega, by omega⟩ | assumption) (by first | exact hS _ _ | exact hT _ _ | exact ⟨by omega, by omega⟩ | assumption) (fun c35 => ?_) (fun c35 => ?_)
  · have hz : zB S g p o = S2_29 := by unfold zB; rw [if_neg (by omega), hS2_29, hz1, hS1_11]
    refine G_iload (pc := 54) 0 dX6_giveBack_54 rfl ?_
    exact G_iret_m (pc := 56) hF dX6_giveBack_56 ⟨Nat.le_of_ble_eq_true rfl, Nat.le_of_ble_eq_true rfl⟩ (by first | rfl | omega | simp_all) (by first | (rw [hz]; done) | rw [hz, hS2_29])
  · have hz : zB S g p o = zlw S2_29 3 g p o (S2_29 (0, 0, 0, 0) 6) := by unfold zB; rw [if_pos (by omega), hz2, hS2_29, hz1, hS1_11]
    refine G_aload_n (pc := 38) 0 1 dX6_giveBack_38 rfl rfl ?_
    refine G_getf (pc := 39) fl_X6_22 dX6_giveBack_39 mg_0 rfl ?_
    refine G_iconst (pc := 42) dX6_giveBack_42 ?_
    refine G_iload_n (pc := 43) 1 2 dX6_giveBack_43 rfl rfl ?_
    refine G_iload_n (pc := 44) 2 3 dX6_giveBack_44 rfl rfl ?_
    refine G_iload (pc := 45) 5 dX6_giveBack_45 rfl ?_
    refine G_aload_n (pc := 47) 0 1 dX6_giveBack_47 rfl rfl ?_
    refine G_getf (pc := 48) fl_X6_37 dX6_giveBack_48 mg_0 rfl ?_
    refine G_callVv (pc := 51) gk_X6_214 dX6_giveBack_51 mg_1 rfl (c_X1_write (by first | assumption | omega | exact ⟨by omega, by omega⟩ | exact hS _ _ | exact hT _ _)) rfl rfl (Nat.le_of_ble_eq_true rfl) ⟨⟨Nat.le_of_ble_eq_true rfl, Nat.le_of_ble_eq_true rfl⟩, Nat.le_of_ble_eq_true rfl, Nat.le_of_ble_eq_true rfl⟩ ?_
    refine G_name (fun S3_51 hS3_51 => ?_)
    refine G_iload (pc := 54) 0 dX6_giveBack_54 rfl ?_
    exact G_iret_m (pc := 56) hF dX6_giveBack_56 ⟨Nat.le_of_ble_eq_true rfl, Nat.le_of_ble_eq_true rfl⟩ (by first | rfl | omega | simp_all) (by first | (rw [hz]; done) | rw [hz, hS3_51])
set_option maxHeartbeats 4000000 in
set_option maxRecDepth 100000 in
theorem c_X6_nackOverdue {l : Launch} {Δ : zDl} {ad : zK → Nat} {P : zP} {S : zS} {X : zMem} {g : Int} (hP : zWP P) (hg : 0 ≤ g ∧ g < P 3 0 0) (hW : zWS P S) : zMn l Δ yX6_nackOverdue cX6_nackOverdue 7 (some .int) 6 0 0 [.ref (ad (0, 0, 0, 0)), .int (zI g), .ref (ad (15, g, 0, 0))] ad (mm Δ ad P S X) (zD (some (.int (zI ((lp (zv2 P g) 0 (P 1 (P 4 g 0) 0) (S, 0)).2)))) ad (mm Δ ad P ((lp (zv2 P g) 0 (P 1 (P 4 g 0) 0) (S, 0)).1) X)) := by
  refine zMn_of (by decide) (Nat.le_of_ble_eq_true rfl) (fun Γ hl hΔ hF => ?_)
  subst hl hΔ
  show G Γ _ _ _ RX6 _ _ _ _ _ [(0, .ref (ad (0, 0, 0, 0))), (1, .int (zI g)), (2, .ref (ad (15, g, 0, 0)))] []
  have hS := hW.R
  have hN := hP.n
  have hk := hW.k
  have hl := hW.l
  have hG := hP.g hg
  have hT := hP.t hG
  refine G_iconst (pc := 0) dX6_nackOverdue_0 ?_
  refine G_istore_ne (pc := 1) 3 (fun zw => [(3, .int (zI zw)), (0, .ref (ad (0, 0, 0, 0))), (1, .int (zI g)), (2, .ref (ad (15, g, 0, 0)))]) dX6_nackOverdue_1 rfl (by decide) (fun _ => rfl) (fun v1 e1 => ?_)
  refine G_iconst (pc := 2) dX6_nackOverdue_2 ?_
  refine G_istore_e (pc := 3) (fun zw => [(4, .int (zI zw)), (3, .int (zI v1)), (0, .ref (ad (0, 0, 0, 0))), (1, .int (zI g)), (2, .ref (ad (15, g, 0, 0)))]) dX6_nackOverdue_3 (by decide) (fun _ => rfl) (fun v3 e3 => ?_)
  have L5 : ∀ (n : Nat) (m : Int) (p : Int) (T : zS), ((0 ≤ p ∧ p ≤ P 1 (P 4 g 0) 0) ∧ lp (zv2 P g) p (P 1 (P 4 g 0) 0) (T, m) = lp (zv2 P g) 0 (P 1 (P 4 g 0) 0) (S, 0) ∧ zWS P T) → (P 1 (P 4 g 0) 0 - p).toNat < n → G Γ (zRm 6 0 0) cX6_nackOverdue 7 RX6 ad (mm (z_d Γ) ad P T X) 0 0 5 [(0, .ref (ad (0, 0, 0, 0))), (1, .int (zI g)), (2, .ref (ad (15, g, 0, 0))), (3, .int (zI m)), (4, .int (zI p))] [] := by
    intro n
    induction n with
    | zero => intro m p T _ hn; omega
    | succ n ih5 =>
      intro m p T hi5 hn5
      obtain ⟨hp0, hq, hTW⟩ := hi5
      refine G_iload (pc := 5) 4 dX6_nackOverdue_5 rfl ?_
      refine G_aload_n (pc := 7) 2 2 dX6_nackOverdue_7 rfl rfl ?_
      refine G_getf (pc := 8) fl_X6_204 dX6_nackOverdue_8 (mg_15 (by first | assumption | omega | exact ⟨by omega, by omega⟩ | exact hS _ _ | exact hT _ _)) rfl ?_
      refine G_alen (pc := 11) (t := 3) rfl dX6_nackOverdue_11 (mg_16 (by first | assumption | omega | exact ⟨by omega, by omega⟩ | exact hS _ _ | exact hT _ _)) ?_
      refine G_icmp_ge (pc := 12) 97 dX6_nackOverdue_12 (by decide) (by first | exact hS _ _ | exact hT _ _ | exact ⟨by omega, by omega⟩ | assumption) (by first | exact hS _ _ | exact hT _ _ | exact ⟨by omega, by omega⟩ | assumption) (fun c12 => ?_) (fun c12 => ?_)
      · refine G_iload_n (pc := 97) 3 3 dX6_nackOverdue_97 rfl rfl ?_
        exact G_iret_m (pc := 98) hF dX6_nackOverdue_98 ⟨Nat.le_of_ble_eq_true rfl, Nat.le_of_ble_eq_true rfl⟩ (by rw [← hq, lp_end (by omega)]) (by rw [← hq, lp_end (by omega)])
      · refine G_aload_n (pc := 15) 2 2 dX6_nackOverdue_15 rfl rfl ?_
        refine G_getf (pc := 16) fl_X6_204 dX6_nackOverdue_16 (mg_15 (by first | assumption | omega | exact ⟨by omega, by omega⟩ | exact hS _ _ | exact hT _ _)) rfl ?_
        refine G_iload (pc := 19) 4 dX6_nackOverdue_19 rfl ?_
        refine G_aald (pc := 21) (t := 3) rfl dX6_nackOverdue_21 (mg_16 (by first | assumption | omega | exact ⟨by omega, by omega⟩ | exact hS _ _ | exact hT _ _)) ⟨by omega, by omega, by omega, by omega⟩ rfl ?_
        refine G_astore (pc := 22) [(5, .ref (ad (18, g, p, 0))), (0, .ref (ad (0, 0, 0, 0))), (1, .int (zI g)), (2, .ref (ad (15, g, 0, 0))), (3, .int (zI m)), (4, .int (zI p))] dX6_nackOverdue_22 (by decide) rfl ?_
        have hM9 := hP.m hG (p := p) ⟨hp0.1, by omega⟩
        refine G_iconst (pc := 24) dX6_nackOverdue_24 ?_
        refine G_istore_e (pc := 25) (fun zw => [(6, .int (zI zw)), (5, .ref (ad (18, g, p, 0))), (0, .ref (ad (0, 0, 0, 0))), (1, .int (zI g)), (2, .ref (ad (15, g, 0, 0))), (3, .int (zI m)), (4, .int (zI p))]) dX6_nackOverdue_25 (by decide) (fun _ => rfl) (fun v25 e25 => ?_)
        have L27 : ∀ (n : Nat) (m2 : Int) (o : Int) (T2 : zS), ((0 ≤ o ∧ o ≤ P 2 (P 4 g 0) p) ∧ lp (zv1 g p) o (P 2 (P 4 g 0) p) (T2, m2) = zv2 P g p (T, m) ∧ zWS P T2) → (P 2 (P 4 g 0) p - o).toNat < n → G Γ (zRm 6 0 0) cX6_nackOverdue 7 RX6 ad (mm (z_d Γ) ad P T2 X) 0 0 27 [(0, .ref (ad (0, 0, 0, 0))), (1, .int (zI g)), (2, .ref (ad (15, g, 0, 0))), (3, .int (zI m2)), (4, .int (zI p)), (5, .ref (ad (18, g, p, 0))), (6, .int (zI o))] [] := by
          intro n
          induction n with
          | zero => intro m2 o T2 _ hn; omega
          | succ n ih27 =>
            intro m2 o T2 hi27 hn27
            obtain ⟨ho0, hq2, hTW2⟩ := hi27
            have hT2 := hTW2.R
            have hk2 := hTW2.k
            have hw2 := hTW2.w g p o
            have hc2 := hTW2.c g p o
            refine G_iload (pc := 27) 6 dX6_nackOverdue_27 rfl ?_
            refine G_aload (pc := 29) 5 dX6_nackOverdue_29 rfl ?_
            refine G_getf (pc := 31) fl_X6_236 dX6_nackOverdue_31 (mg_18 (by first | assumption | omega | exact ⟨by omega, by omega⟩ | exact hS _ _ | exact hT _ _)) rfl ?_
            refine G_callVd (pc := 34) gk_X6_156 dX6_nackOverdue_34 (mg_11 (by first | assumption | omega | exact ⟨by omega, by omega⟩ | exact hS _ _ | exact hT _ _)) rfl (c_X3_size (by first | assumption | omega | exact ⟨by omega, by omega⟩ | exact hS _ _ | exact hT _ _) (by first | assumption | omega | exact ⟨by omega, by omega⟩ | exact hS _ _ | exact hT _ _)) rfl rfl (Nat.le_of_ble_eq_true rfl) ⟨⟨Nat.le_of_ble_eq_true rfl, Nat.le_of_ble_eq_true rfl⟩, Nat.le_of_ble_eq_true rfl, Nat.le_of_ble_eq_true rfl⟩ ?_
            refine G_icmp_ge (pc := 37) 91 dX6_nackOverdue_37 (by decide) (by first | exact hS _ _ | exact hT _ _ | exact ⟨by omega, by omega⟩ | assumption) (by first | exact hS _ _ | exact hT _ _ | exact ⟨by omega, by omega⟩ | assumption) (fun c37 => ?_) (fun c37 => ?_)
            · have hz2 : zv2 P g p (T, m) = (T2, m2) := by rw [← hq2, lp_end (by omega)]
              refine G_iinc_e (pc := 91) 4 (fun zw => [(4, .int (zI zw)), (0, .ref (ad (0, 0, 0, 0))), (1, .int (zI g)), (2, .ref (ad (15, g, 0, 0))), (3, .int (zI m2)), (5, .ref (ad (18, g, p, 0))), (6, .int (zI o))]) dX6_nackOverdue_91 rfl (by decide) (fun _ => rfl) (fun v91 e91 => ?_)
              refine G_goto (pc := 94) 5 dX6_nackOverdue_94 (by decide) ?_
              refine G_perm (lv' := [(0, .ref (ad (0, 0, 0, 0))), (1, .int (zI g)), (2, .ref (ad (15, g, 0, 0))), (3, .int (zI m2)), (4, .int (zI v91))]) [1, 2, 3, 4, 0] rfl ?_
              exact ih5 m2 v91 T2 ⟨by omega, by rw [e91, ← hq, lp_step (a := p) (n := P 1 (P 4 g 0) 0) (by omega), hz2], hTW2⟩ (by omega)
            · refine G_aload (pc := 40) 5 dX6_nackOverdue_40 rfl ?_
              refine G_iload (pc := 42) 6 dX6_nackOverdue_42 rfl ?_
              refine G_callVd (pc := 44) gk_X6_316 dX6_nackOverdue_44 (mg_18 (by first | assumption | omega | exact ⟨by omega, by omega⟩ | exact hS _ _ | exact hT _ _)) rfl (c_X4_isOut (by first | assumption | omega | exact ⟨by omega, by omega⟩ | exact hS _ _ | exact hT _ _) (by first | assumption | omega | exact ⟨by omega, by omega⟩ | exact hS _ _ | exact hT _ _) (by first | assumption | omega | exact ⟨by omega, by omega⟩ | exact hS _ _ | exact hT _ _) (by first | assumption | omega | exact ⟨by omega, by omega⟩ | exact hS _ _ | exact hT _ _) (by first | assumption | omega | exact ⟨by omega, by omega⟩ | exact hS _ _ | exact hT _ _)) rfl rfl (Nat.le_of_ble_eq_true rfl) ⟨⟨Nat.le_of_ble_eq_true rfl, Nat.le_of_ble_eq_true rfl⟩, Nat.le_of_ble_eq_true rfl, Nat.le_of_ble_eq_true rfl⟩ ?_
              refine G_if_eq_b (pc := 47) 85 dX6_nackOverdue_47 (by decide) (fun c47 => ?_) (fun c47 => ?_)
              · have hz : zv1 g p o (T2, m2) = (T2, m2) := if_neg (fun h => c47 ⟨⟨by omega, by omega⟩, h.1⟩)
                first | (have hz : zv1 g p o (T2, m2) = (T2, v82) := by rw [hT2, e82]; exact if_pos hz0) | skip
                refine G_iinc_e (pc := 85) 6 (fun zw => [(6, .int (zI zw)), (0, .ref (ad (0, 0, 0, 0))), (1, .int (zI g)), (2, .ref (ad (15, g, 0, 0))), (3, .int (zI m2)), (4, .int (zI p)), (5, .ref (ad (18, g, p, 0)))]) dX6_nackOverdue_85 rfl (by decide) (fun _ => rfl) (fun v85 e85 => ?_)
                refine G_goto (pc := 88) 27 dX6_nackOverdue_88 (by decide) ?_
                refine G_perm (lv' := [(0, .ref (ad (0, 0, 0, 0))), (1, .int (zI g)), (2, .ref (ad (15, g, 0, 0))), (3, .int (zI m2)), (4, .int (zI p)), (5, .ref (ad (18, g, p, 0))), (6, .int (zI v85))]) [1, 2, 3, 4, 5, 6, 0] rfl ?_
                exact ih27 m2 v85 T2 ⟨by omega, by rw [e85, ← hq2, lp_step (a := o) (n := P 2 (P 4 g 0) p) (by omega), hz], by first | exact hTW2 | (rw [hT2]; exact zB_W ⟨by omega, by omega⟩ ⟨by omega, by omega⟩ ⟨by omega, by omega⟩ hTW2)⟩ (by omega)
              · refine G_aload_n (pc := 50) 0 0 dX6_nackOverdue_50 rfl rfl ?_
                refine G_getf (pc := 51) fl_X6_37 dX6_nackOverdue_51 mg_0 rfl ?_
                refine G_aload (pc := 54) 5 dX6_nackOverdue_54 rfl ?_
                refine G_getf (pc := 56) fl_X6_320 dX6_nackOverdue_56 (mg_18 (by first | assumption | omega | exact ⟨by omega, by omega⟩ | exact hS _ _ | exact hT _ _)) rfl ?_
                refine G_iload (pc := 59) 6 dX6_nackOverdue_59 rfl ?_
                refine G_iald (pc := 61) dX6_nackOverdue_61 (mg_21 (by first | assumption | omega | exact ⟨by omega, by omega⟩ | exact hS _ _ | exact hT _ _)) ⟨by omega, by omega, by omega, by omega⟩ ?_
                refine G_isub (pc := 62) dX6_nackOverdue_62 ?_
                refine G_aload_n (pc := 63) 0 0 dX6_nackOverdue_63 rfl rfl ?_
                refine G_getf (pc := 64) fl_X6_43 dX6_nackOverdue_64 mg_0 rfl ?_
                refine G_icmp_lt (pc := 67) 85 dX6_nackOverdue_67 (by decide) (by first | exact hS _ _ | exact hT _ _ | exact ⟨by omega, by omega⟩ | assumption) (by first | exact hS _ _ | exact hT _ _ | exact ⟨by omega, by omega⟩ | assumption) (fun c67 => ?_) (fun c67 => ?_)
                · have hz : zv1 g p o (T2, m2) = (T2, m2) := if_neg (fun h => by have h9 : T2 (0, 0, 0, 0) 8 ≤ T2 (0, 0, 0, 0) 6 - T2 (21, g, p, 0) o := h.2; omega)
                  first | (have hz : zv1 g p o (T2, m2) = (T2, v82) := by rw [hT2, e82]; exact if_pos hz0) | skip
                  refine G_iinc_e (pc := 85) 6 (fun zw => [(6, .int (zI zw)), (0, .ref (ad (0, 0, 0, 0))), (1, .int (zI g)), (2, .ref (ad (15, g, 0, 0))), (3, .int (zI m2)), (4, .int (zI p)), (5, .ref (ad (18, g, p, 0)))]) dX6_nackOverdue_85 rfl (by decide) (fun _ => rfl) (fun v85 e85 => ?_)
                  refine G_goto (pc := 88) 27 dX6_nackOverdue_88 (by decide) ?_
                  refine G_perm (lv' := [(0, .ref (ad (0, 0, 0, 0))), (1, .int (zI g)), (2, .ref (ad (15, g, 0, 0))), (3, .int (zI m2)), (4, .int (zI p)), (5, .ref (ad (18, g, p, 0))), (6, .int (zI v85))]) [1, 2, 3, 4, 5, 6, 0] rfl ?_
                  exact ih27 m2 v85 T2 ⟨by omega, by rw [e85, ← hq2, lp_step (a := o) (n := P 2 (P 4 g 0) p) (by omega), hz], by first | exact hTW2 | (rw [hT2]; exact zB_W ⟨by omega, by omega⟩ ⟨by omega, by omega⟩ ⟨by omega, by omega⟩ hTW2)⟩ (by omega)
                · refine G_aload_n (pc := 70) 0 0 dX6_nackOverdue_70 rfl rfl ?_
                  refine G_iload_n (pc := 71) 1 1 dX6_nackOverdue_71 rfl rfl ?_
                  refine G_iload (pc := 72) 4 dX6_nackOverdue_72 rfl ?_
                  refine G_aload (pc := 74) 5 dX6_nackOverdue_74 rfl ?_
                  refine G_iload (pc := 76) 6 dX6_nackOverdue_76 rfl ?_
                  refine G_callVd (pc := 78) gk_X6_232 dX6_nackOverdue_78 mg_0 rfl (c_X6_giveBack (by first | assumption | omega | exact ⟨by omega, by omega⟩ | exact hS _ _ | exact hT _ _) (by first | assumption | omega | exact ⟨by omega, by omega⟩ | exact hS _ _ | exact hT _ _) (by first | assumption | omega | exact ⟨by omega, by omega⟩ | exact hS _ _ | exact hT _ _) (by first | assumption | omega | exact ⟨by omega, by omega⟩ | exact hS _ _ | exact hT _ _) (by first | assumption | omega | exact ⟨by omega, by omega⟩ | exact hS _ _ | exact hT _ _) (by first | assumption | omega | exact ⟨by omega, by omega⟩ | exact hS _ _ | exact hT _ _)) rfl rfl (Nat.le_of_ble_eq_true rfl) ⟨⟨Nat.le_of_ble_eq_true rfl, Nat.le_of_ble_eq_true rfl⟩, Nat.le_of_ble_eq_true rfl, Nat.le_of_ble_eq_true rfl⟩ ?_
                  refine G_name (fun S1_78 hS1_78 => ?_)
                  refine G_pop (pc := 81) dX6_nackOverdue_81 rfl ?_
                  have hz0 : zov T2 g p o := ⟨c47.2, by omega⟩
                  refine G_iinc_e (pc := 82) 3 (fun zw => [(3, .int (zI zw)), (0, .ref (ad (0, 0, 0, 0))), (1, .int (zI g)), (2, .ref (ad (15, g, 0, 0))), (4, .int (zI p)), (5, .ref (ad (18, g, p, 0))), (6, .int (zI o))]) dX6_nackOverdue_82 rfl (by decide) (fun _ => rfl) (fun v82 e82 => ?_)
                  first | (have hz : zv1 g p o (T2, m2) = (S1_78, v82) := by rw [hS1_78, e82]; exact if_pos hz0) | skip
                  refine G_iinc_e (pc := 85) 6 (fun zw => [(6, .int (zI zw)), (3, .int (zI v82)), (0, .ref (ad (0, 0, 0, 0))), (1, .int (zI g)), (2, .ref (ad (15, g, 0, 0))), (4, .int (zI p)), (5, .ref (ad (18, g, p, 0)))]) dX6_nackOverdue_85 rfl (by decide) (fun _ => rfl) (fun v85 e85 => ?_)
                  refine G_goto (pc := 88) 27 dX6_nackOverdue_88 (by decide) ?_
                  refine G_perm (lv' := [(0, .ref (ad (0, 0, 0, 0))), (1, .int (zI g)), (2, .ref (ad (15, g, 0, 0))), (3, .int (zI v82)), (4, .int (zI p)), (5, .ref (ad (18, g, p, 0))), (6, .int (zI v85))]) [2, 3, 4, 1, 5, 6, 0] rfl ?_
                  exact ih27 v82 v85 S1_78 ⟨by omega, by rw [e85, ← hq2, lp_step (a := o) (n := P 2 (P 4 g 0) p) (by omega), hz], by first | exact hTW2 | (rw [hS1_78]; exact zB_W ⟨by omega, by omega⟩ ⟨by omega, by omega⟩ ⟨by omega, by omega⟩ hTW2)⟩ (by omega)
        refine G_perm (lv' := [(0, .ref (ad (0, 0, 0, 0))), (1, .int (zI g)), (2, .ref (ad (15, g, 0, 0))), (3, .int (zI m)), (4, .int (zI p)), (5, .ref (ad (18, g, p, 0))), (6, .int (zI v25))]) [2, 3, 4, 5, 6, 1, 0] rfl ?_
        exact L27 _ m v25 T ⟨by omega, by rw [e25]; rfl, hTW⟩ (Nat.lt_succ_self _)
  refine G_perm (lv' := [(0, .ref (ad (0, 0, 0, 0))), (1, .int (zI g)), (2, .ref (ad (15, g, 0, 0))), (3, .int (zI v1)), (4, .int (zI v3))]) [2, 3, 4, 1, 0] rfl ?_
  exact L5 _ v1 v3 S ⟨by omega, by rw [e1, e3], hW⟩ (Nat.lt_succ_self _)
set_option maxHeartbeats 4000000 in
set_option maxRecDepth 100000 in
theorem c_X6_setClock {l : Launch} {Δ : zDl} {ad : zK → Nat} {P : zP} {S : zS} {X : zMem} {x : Int} (hP : zWP P) (hW : zWS P S) (hx : S (0, 0, 0, 0) 6 < x ∧ x ≤ 9999) : zMn l Δ yX6_setClock cX6_setClock 4 (some .int) 9 0 0 [.ref (ad (0, 0, 0, 0)), .int (zI x)] ad (mm Δ ad P S X) (zD (some (.int (zI ((lp (zv3 P) 0 (P 3 0 0) (zst S (0, 0, 0, 0) 6 x, 0)).2)))) ad (mm Δ ad P (zkA P (lp (zv4 P x) 0 (P 0 0 0) (lp (zv3 P) 0 (P 3 0 0) (zst S (0, 0, 0, 0) 6 x, 0)).1)) X)) := by
  refine zMn_of (by decide) (Nat.le_of_ble_eq_true rfl) (fun Γ hl hΔ hF => ?_)
  subst hl hΔ
  show G Γ _ _ _ RX6 _ _ _ _ _ [(0, .ref (ad (0, 0, 0, 0))), (1, .int (zI x))] []
  have hS := hW.R
  have hN := hP.n
  have hk := hW.k
  have hl := hW.l
  refine G_iload_n (pc := 0) 1 1 dX6_setClock_0 rfl rfl ?_
  refine G_aload_n (pc := 1) 0 0 dX6_setClock_1 rfl rfl ?_
  refine G_getf (pc := 2) fl_X6_37 dX6_setClock_2 mg_0 rfl ?_
  refine G_iconst (pc := 5) dX6_setClock_5 ?_
  refine G_iadd (pc := 6) dX6_setClock_6 ?_
  refine G_sipush (pc := 7) dX6_setClock_7 (by decide) ?_
  refine G_callSd (pc := 10) gk_X6_46 dX6_setClock_10 (c_X6_isWithin (by first | assumption | omega | exact ⟨by omega, by omega⟩ | exact hS _ _ | exact hT _ _) (by first | assumption | omega | exact ⟨by omega, by omega⟩ | exact hS _ _ | exact hT _ _) (by first | assumption | omega | exact ⟨by omega, by omega⟩ | exact hS _ _ | exact hT _ _)) rfl rfl (Nat.le_of_ble_eq_true rfl) ⟨⟨Nat.le_of_ble_eq_true rfl, Nat.le_of_ble_eq_true rfl⟩, Nat.le_of_ble_eq_true rfl, Nat.le_of_ble_eq_true rfl⟩ ?_
  refine G_if_ne_b (pc := 13) 26 dX6_setClock_13 (by decide) (fun c13 => ?_) (fun c13 => ?_)
  · refine G_aload_n (pc := 26) 0 0 dX6_setClock_26 rfl rfl ?_
    refine G_iload_n (pc := 27) 1 1 dX6_setClock_27 rfl rfl ?_
    refine G_putf (pc := 28) fl_X6_37 fp_X6_6 dX6_setClock_28 mg_0 (Nat.le_of_ble_eq_true rfl) rfl rfl (mp_0_6 _) ?_
    refine G_name (fun S1_28 hS1_28 => ?_)
    refine G_iconst (pc := 31) dX6_setClock_31 ?_
    refine G_istore_ne (pc := 32) 2 (fun zw => [(2, .int (zI zw)), (0, .ref (ad (0, 0, 0, 0))), (1, .int (zI x))]) dX6_setClock_32 rfl (by decide) (fun _ => rfl) (fun v32 e32 => ?_)
    refine G_iconst (pc := 33) dX6_setClock_33 ?_
    refine G_istore_ne (pc := 34) 3 (fun zw => [(3, .int (zI zw)), (2, .int (zI v32)), (0, .ref (ad (0, 0, 0, 0))), (1, .int (zI x))]) dX6_setClock_34 rfl (by decide) (fun _ => rfl) (fun v34 e34 => ?_)
    have L35 : ∀ (n : Nat) (m : Int) (g : Int) (T : zS), ((0 ≤ g ∧ g ≤ P 3 0 0) ∧ lp (zv3 P) g (P 3 0 0) (T, m) = lp (zv3 P) 0 (P 3 0 0) (zst S (0, 0, 0, 0) 6 x, 0) ∧ zWS P T ∧ T (0, 0, 0, 0) 6 = x) → (P 3 0 0 - g).toNat < n → G Γ (zRm 9 0 0) cX6_setClock 4 RX6 ad (mm (z_d Γ) ad P T X) 0 0 35 [(0, .ref (ad (0, 0, 0, 0))), (1, .int (zI x)), (2, .int (zI m)), (3, .int (zI g))] [] := by
      intro n
      induction n with
      | zero => intro m g T _ hn; omega
      | succ n ih35 =>
        intro m g T hi35 hn35
        obtain ⟨hg0, hq, hTW, hTx⟩ := hi35
        refine G_iload_n (pc := 35) 3 3 dX6_setClock_35 rfl rfl ?_
        refine G_aload_n (pc := 36) 0 0 dX6_setClock_36 rfl rfl ?_
        refine G_getf (pc := 37) fl_X6_16 dX6_setClock_37 mg_0 rfl ?_
        refine G_callVd (pc := 40) gk_X6_57 dX6_setClock_40 mg_6 rfl (c_AL_size_6 ) rfl rfl (Nat.le_of_ble_eq_true rfl) ⟨⟨Nat.le_of_ble_eq_true rfl, Nat.le_of_ble_eq_true rfl⟩, Nat.le_of_ble_eq_true rfl, Nat.le_of_ble_eq_true rfl⟩ ?_
        refine G_icmp_ge (pc := 43) 71 dX6_setClock_43 (by decide) (by first | exact hS _ _ | exact hT _ _ | exact ⟨by omega, by omega⟩ | assumption) (by first | exact hS _ _ | exact hT _ _ | exact ⟨by omega, by omega⟩ | assumption) (fun c43 => ?_) (fun c43 => ?_)
        · have hz := hq
          rw [lp_end (a := g) (by omega)] at hz
          refine G_iconst (pc := 71) dX6_setClock_71 ?_
          refine G_istore_ne (pc := 72) 3 (fun zw => [(3, .int (zI zw)), (0, .ref (ad (0, 0, 0, 0))), (1, .int (zI x)), (2, .int (zI m))]) dX6_setClock_72 rfl (by decide) (fun _ => rfl) (fun v72 e72 => ?_)
          have L73 : ∀ (n : Nat) (t : Int) (T2 : zS), ((0 ≤ t ∧ t ≤ P 0 0 0) ∧ lp (zv4 P x) t (P 0 0 0) T2 = lp (zv4 P x) 0 (P 0 0 0) (lp (zv3 P) 0 (P 3 0 0) (zst S (0, 0, 0, 0) 6 x, 0)).1 ∧ zWS P T2 ∧ T2 (0, 0, 0, 0) 6 = x) → (P 0 0 0 - t).toNat < n → G Γ (zRm 9 0 0) cX6_setClock 4 RX6 ad (mm (z_d Γ) ad P T2 X) 0 0 73 [(0, .ref (ad (0, 0, 0, 0))), (1, .int (zI x)), (2, .int (zI m)), (3, .int (zI t))] [] := by
            intro n
            induction n with
            | zero => intro t T2 _ hn; omega
            | succ n ih73 =>
              intro t T2 hi73 hn73
              obtain ⟨ht0, hq2, hTW2, hTx2⟩ := hi73
              refine G_iload_n (pc := 73) 3 3 dX6_setClock_73 rfl rfl ?_
              refine G_aload_n (pc := 74) 0 0 dX6_setClock_74 rfl rfl ?_
              refine G_getf (pc := 75) fl_X6_10 dX6_setClock_75 mg_0 rfl ?_
              refine G_callVd (pc := 78) gk_X6_57 dX6_setClock_78 mg_4 rfl (c_AL_size_4 ) rfl rfl (Nat.le_of_ble_eq_true rfl) ⟨⟨Nat.le_of_ble_eq_true rfl, Nat.le_of_ble_eq_true rfl⟩, Nat.le_of_ble_eq_true rfl, Nat.le_of_ble_eq_true rfl⟩ ?_
              refine G_icmp_ge (pc := 81) 108 dX6_setClock_81 (by decide) (by first | exact hS _ _ | exact hT _ _ | exact ⟨by omega, by omega⟩ | assumption) (by first | exact hS _ _ | exact hT _ _ | exact ⟨by omega, by omega⟩ | assumption) (fun c81 => ?_) (fun c81 => ?_)
              · have hz3 := hq2
                rw [lp_end (a := t) (by omega)] at hz3
                refine G_aload_n (pc := 108) 0 0 dX6_setClock_108 rfl rfl ?_
                refine G_callVv (pc := 109) gk_X6_119 dX6_setClock_109 mg_0 rfl (c_X6_keepUpGroups (by first | assumption | omega | exact ⟨by omega, by omega⟩ | exact hS _ _ | exact hT _ _) (by first | assumption | omega | exact ⟨by omega, by omega⟩ | exact hS _ _ | exact hT _ _)) rfl rfl (Nat.le_of_ble_eq_true rfl) ⟨⟨Nat.le_of_ble_eq_true rfl, Nat.le_of_ble_eq_true rfl⟩, Nat.le_of_ble_eq_true rfl, Nat.le_of_ble_eq_true rfl⟩ ?_
                refine G_name (fun S2_109 hS2_109 => ?_)
                refine G_iload_n (pc := 112) 2 2 dX6_setClock_112 rfl rfl ?_
                exact G_iret_m (pc := 113) hF dX6_setClock_113 ⟨Nat.le_of_ble_eq_true rfl, Nat.le_of_ble_eq_true rfl⟩ (by rw [← hz]) (by rw [hS2_109, ← hz3])
              · refine G_aload_n (pc := 84) 0 0 dX6_setClock_84 rfl rfl ?_
                refine G_getf (pc := 85) fl_X6_10 dX6_setClock_85 mg_0 rfl ?_
                refine G_iload_n (pc := 88) 3 3 dX6_setClock_88 rfl rfl ?_
                refine G_callVd (pc := 89) gk_X6_111 dX6_setClock_89 mg_4 rfl (c_AL_get_4 (by first | assumption | omega | exact ⟨by omega, by omega⟩ | exact hS _ _ | exact hT _ _) (by first | assumption | omega | exact ⟨by omega, by omega⟩ | exact hS _ _ | exact hT _ _)) rfl rfl (Nat.le_of_ble_eq_true rfl) ⟨⟨Nat.le_of_ble_eq_true rfl, Nat.le_of_ble_eq_true rfl⟩, Nat.le_of_ble_eq_true rfl, Nat.le_of_ble_eq_true rfl⟩ ?_
                refine G_cast (pc := 92) ct_X6_66 dX6_setClock_92 (mg_8 (by first | assumption | omega | exact ⟨by omega, by omega⟩ | exact hS _ _ | exact hT _ _)) ?_
                refine G_aload_n (pc := 95) 0 0 dX6_setClock_95 rfl rfl ?_
                refine G_getf (pc := 96) fl_X6_37 dX6_setClock_96 mg_0 rfl ?_
                refine G_callVv (pc := 99) gk_X6_144 dX6_setClock_99 (mg_8 (by first | assumption | omega | exact ⟨by omega, by omega⟩ | exact hS _ _ | exact hT _ _)) rfl (c_X5_dropOld (by first | assumption | omega | exact ⟨by omega, by omega⟩ | exact hS _ _ | exact hT _ _) (by first | assumption | omega | exact ⟨by omega, by omega⟩ | exact hS _ _ | exact hT _ _) (by first | assumption | omega | exact ⟨by omega, by omega⟩ | exact hS _ _ | exact hT _ _) (by first | assumption | omega | exact ⟨by omega, by omega⟩ | exact hS _ _ | exact hT _ _)) rfl rfl (Nat.le_of_ble_eq_true rfl) ⟨⟨Nat.le_of_ble_eq_true rfl, Nat.le_of_ble_eq_true rfl⟩, Nat.le_of_ble_eq_true rfl, Nat.le_of_ble_eq_true rfl⟩ ?_
                refine G_name (fun S3_99 hS3_99 => ?_)
                refine G_iinc_e (pc := 102) 3 (fun zw => [(3, .int (zI zw)), (0, .ref (ad (0, 0, 0, 0))), (1, .int (zI x)), (2, .int (zI m))]) dX6_setClock_102 rfl (by decide) (fun _ => rfl) (fun v102 e102 => ?_)
                refine G_goto (pc := 105) 73 dX6_setClock_105 (by decide) ?_
                refine G_perm (lv' := [(0, .ref (ad (0, 0, 0, 0))), (1, .int (zI x)), (2, .int (zI m)), (3, .int (zI v102))]) [1, 2, 3, 0] rfl ?_
                exact ih73 v102 S3_99 ⟨by omega, by rw [e102, ← hq2, lp_step (a := t) (n := P 0 0 0) (by omega), hS3_99, hTx2]; rfl, by rw [hS3_99, hTx2]; exact zv4_W hP ⟨by omega, by omega⟩ hTW2, by rw [hS3_99, hTx2]; exact (zv4_0 (P := P) (x := x) (t := t) (S := T2)).trans hTx2⟩ (by omega)
          refine G_perm (lv' := [(0, .ref (ad (0, 0, 0, 0))), (1, .int (zI x)), (2, .int (zI m)), (3, .int (zI v72))]) [1, 2, 3, 0] rfl ?_
          exact L73 _ v72 T ⟨by omega, by rw [e72, ← hz], hTW, hTx⟩ (Nat.lt_succ_self _)
        · refine G_iload_n (pc := 46) 2 2 dX6_setClock_46 rfl rfl ?_
          refine G_aload_n (pc := 47) 0 0 dX6_setClock_47 rfl rfl ?_
          refine G_iload_n (pc := 48) 3 3 dX6_setClock_48 rfl rfl ?_
          refine G_aload_n (pc := 49) 0 0 dX6_setClock_49 rfl rfl ?_
          refine G_getf (pc := 50) fl_X6_16 dX6_setClock_50 mg_0 rfl ?_
          refine G_iload_n (pc := 53) 3 3 dX6_setClock_53 rfl rfl ?_
          refine G_callVd (pc := 54) gk_X6_111 dX6_setClock_54 mg_6 rfl (c_AL_get_6 (by first | assumption | omega | exact ⟨by omega, by omega⟩ | exact hS _ _ | exact hT _ _) (by first | assumption | omega | exact ⟨by omega, by omega⟩ | exact hS _ _ | exact hT _ _)) rfl rfl (Nat.le_of_ble_eq_true rfl) ⟨⟨Nat.le_of_ble_eq_true rfl, Nat.le_of_ble_eq_true rfl⟩, Nat.le_of_ble_eq_true rfl, Nat.le_of_ble_eq_true rfl⟩ ?_
          refine G_cast (pc := 57) ct_X6_138 dX6_setClock_57 (mg_15 (by first | assumption | omega | exact ⟨by omega, by omega⟩ | exact hS _ _ | exact hT _ _)) ?_
          refine G_callVd (pc := 60) gk_X6_140 dX6_setClock_60 mg_0 rfl (c_X6_nackOverdue (by first | assumption | omega | exact ⟨by omega, by omega⟩ | exact hS _ _ | exact hT _ _) (by first | assumption | omega | exact ⟨by omega, by omega⟩ | exact hS _ _ | exact hT _ _) (by first | assumption | omega | exact ⟨by omega, by omega⟩ | exact hS _ _ | exact hT _ _)) rfl rfl (Nat.le_of_ble_eq_true rfl) ⟨⟨Nat.le_of_ble_eq_true rfl, Nat.le_of_ble_eq_true rfl⟩, Nat.le_of_ble_eq_true rfl, Nat.le_of_ble_eq_true rfl⟩ ?_
          refine G_name (fun S4_60 hS4_60 => ?_)
          refine G_iadd (pc := 63) dX6_setClock_63 ?_
          refine G_istore_ne (pc := 64) 2 (fun zw => [(2, .int (zI zw)), (0, .ref (ad (0, 0, 0, 0))), (1, .int (zI x)), (3, .int (zI g))]) dX6_setClock_64 rfl (by decide) (fun _ => rfl) (fun v64 e64 => ?_)
          refine G_iinc_e (pc := 65) 3 (fun zw => [(3, .int (zI zw)), (2, .int (zI v64)), (0, .ref (ad (0, 0, 0, 0))), (1, .int (zI x))]) dX6_setClock_65 rfl (by decide) (fun _ => rfl) (fun v65 e65 => ?_)
          refine G_goto (pc := 68) 35 dX6_setClock_68 (by decide) ?_
          refine G_perm (lv' := [(0, .ref (ad (0, 0, 0, 0))), (1, .int (zI x)), (2, .int (zI v64)), (3, .int (zI v65))]) [2, 3, 1, 0] rfl ?_
          exact ih35 v64 v65 S4_60 ⟨by omega, by rw [e65, ← hq, lp_step (a := g) (n := P 3 0 0) (by omega), show zv3 P g (T, m) = (S4_60, v64) by rw [hS4_60, e64]; rfl], by rw [hS4_60]; exact zv3_W hP ⟨by omega, by omega⟩ ⟨by omega, by have := hP.t (hP.g (g := g) ⟨by omega, by omega⟩); omega⟩ hTW, by rw [hS4_60]; exact (zv3_0 (s := (T, m))).trans hTx⟩ (by omega)
    refine G_perm (lv' := [(0, .ref (ad (0, 0, 0, 0))), (1, .int (zI x)), (2, .int (zI v32)), (3, .int (zI v34))]) [2, 3, 1, 0] rfl ?_
    exact L35 _ v32 v34 S1_28 ⟨by omega, by rw [e32, e34, hS1_28], by rw [hS1_28]; exact hW.s0 ⟨by omega, by omega⟩ (by omega), by rw [hS1_28, zst_s]⟩ (Nat.lt_succ_self _)
  · exfalso
    omega
set_option maxHeartbeats 4000000 in
set_option maxRecDepth 100000 in
theorem c_X6_setClock_y {l : Launch} {Δ : zDl} {ad : zK → Nat} {P : zP} {S : zS} {X : zMem} {x : Int} (hP : zWP P) (hW : zWS P S) (hr : zR x) (hn : ¬ (S (0, 0, 0, 0) 6 < x ∧ x ≤ 9999)) (hst : l.stackTraces = false) : zMx l Δ yX6_setClock cX6_setClock 4 (some .int) 9 1 6 [.ref (ad (0, 0, 0, 0)), .int (zI x)] ad (mm Δ ad P S X) zF0 (zE "java/lang/IllegalArgumentException" ad (mm Δ ad P S X)) := by
  refine zMx_of hst (by decide) (Nat.le_of_ble_eq_true rfl) (fun Γ hl hΔ hF hX => ?_)
  subst hl hΔ
  show G Γ _ _ _ RX6 _ _ _ _ _ [(0, .ref (ad (0, 0, 0, 0))), (1, .int (zI x))] []
  have hS := hW.R
  have hN := hP.n
  have hk := hW.k
  have hl := hW.l
  refine G_iload_n (pc := 0) 1 1 dX6_setClock_0 rfl rfl ?_
  refine G_aload_n (pc := 1) 0 0 dX6_setClock_1 rfl rfl ?_
  refine G_getf (pc := 2) fl_X6_37 dX6_setClock_2 mg_0 rfl ?_
  refine G_iconst (pc := 5) dX6_setClock_5 ?_
  refine G_iadd (pc := 6) dX6_setClock_6 ?_
  refine G_sipush (pc := 7) dX6_setClock_7 (by decide) ?_
  refine G_callSd (pc := 10) gk_X6_46 dX6_setClock_10 (c_X6_isWithin (by first | assumption | omega | exact ⟨by omega, by omega⟩ | exact hS _ _ | exact hT _ _) (by first | assumption | omega | exact ⟨by omega, by omega⟩ | exact hS _ _ | exact hT _ _) (by first | assumption | omega | exact ⟨by omega, by omega⟩ | exact hS _ _ | exact hT _ _)) rfl rfl (Nat.le_of_ble_eq_true rfl) ⟨⟨Nat.le_of_ble_eq_true rfl, Nat.le_of_ble_eq_true rfl⟩, Nat.le_of_ble_eq_true rfl, Nat.le_of_ble_eq_true rfl⟩ ?_
  refine G_if_ne_b (pc := 13) 26 dX6_setClock_13 (by decide) (fun c13 => ?_) (fun c13 => ?_)
  · exfalso
    omega
  · exact G_throw (text := "the clock goes forward, up to 9999") hX tw_54 rfl (by decide) dX6_setClock_16 dX6_setClock_19 dX6_setClock_20 dX6_setClock_22 dX6_setClock_25 ⟨⟨Nat.le_of_ble_eq_true rfl, Nat.le_of_ble_eq_true rfl⟩, Nat.le_of_ble_eq_true rfl, Nat.le_of_ble_eq_true rfl⟩ ⟨Nat.le_of_ble_eq_true rfl, Nat.le_of_ble_eq_true rfl⟩ ⟨rfl, rfl, rfl⟩
set_option maxHeartbeats 4000000 in
set_option maxRecDepth 100000 in
theorem c_X6_join {l : Launch} {Δ : zDl} {ad : zK → Nat} {P : zP} {S : zS} {X : zMem} {g r b : Int} (hP : zWP P) (hg : 0 ≤ g ∧ g < P 3 0 0) (hW : zWS P S) (hx : 0 ≤ r ∧ r < 6) (hb : b = 0 ∨ b = 1) (h01 : S (17, g, 0, 0) r = 0 ∨ S (17, g, 0, 0) r = 1) : zMn l Δ yX6_join cX6_join 6 (some .boolean) 9 0 0 [.ref (ad (0, 0, 0, 0)), .int (zI g), .int (zI r), .int (zI b)] ad (mm Δ ad P S X) (zD (some (.int (zI (S (17, g, 0, 0) r)))) ad (mm Δ ad P (lp (zsf P g) 0 (P 1 (P 4 g 0) 0) (zst S (17, g, 0, 0) r b)) X)) := by
  refine zMn_of (by decide) (Nat.le_of_ble_eq_true rfl) (fun Γ hl hΔ hF => ?_)
  subst hl hΔ
  show G Γ _ _ _ RX6 _ _ _ _ _ [(0, .ref (ad (0, 0, 0, 0))), (1, .int (zI g)), (2, .int (zI r)), (3, .int (zI b))] []
  have hS := hW.R
  have hN := hP.n
  have hk := hW.k
  have hl := hW.l
  have hG := hP.g hg
  have hT := hP.t hG
  have hW1 : zWS P (zst S (17, g, 0, 0) r b) := hW.sf ⟨by omega, by omega⟩ (by decide)
  refine G_aload_n (pc := 0) 0 0 dX6_join_0 rfl rfl ?_
  refine G_iload_n (pc := 1) 1 1 dX6_join_1 rfl rfl ?_
  refine G_callVd (pc := 2) gk_X6_186 dX6_join_2 mg_0 rfl (c_X6_groupAt (by first | assumption | omega | exact ⟨by omega, by omega⟩ | exact hS _ _ | exact hT _ _) (by first | assumption | omega | exact ⟨by omega, by omega⟩ | exact hS _ _ | exact hT _ _)) rfl rfl (Nat.le_of_ble_eq_true rfl) ⟨⟨Nat.le_of_ble_eq_true rfl, Nat.le_of_ble_eq_true rfl⟩, Nat.le_of_ble_eq_true rfl, Nat.le_of_ble_eq_true rfl⟩ ?_
  refine G_astore (pc := 5) [(4, .ref (ad (15, g, 0, 0))), (0, .ref (ad (0, 0, 0, 0))), (1, .int (zI g)), (2, .int (zI r)), (3, .int (zI b))] dX6_join_5 (by decide) rfl ?_
  refine G_iload_n (pc := 7) 2 3 dX6_join_7 rfl rfl ?_
  refine G_callSv (pc := 8) gk_X6_190 dX6_join_8 (c_X6_refuseOtherReaders (by first | assumption | omega | exact ⟨by omega, by omega⟩ | exact hS _ _ | exact hT _ _)) rfl rfl (Nat.le_of_ble_eq_true rfl) ⟨⟨Nat.le_of_ble_eq_true rfl, Nat.le_of_ble_eq_true rfl⟩, Nat.le_of_ble_eq_true rfl, Nat.le_of_ble_eq_true rfl⟩ ?_
  refine G_aload (pc := 11) 0 dX6_join_11 rfl ?_
  refine G_getf (pc := 13) fl_X6_193 dX6_join_13 (mg_15 (by first | assumption | omega | exact ⟨by omega, by omega⟩ | exact hS _ _ | exact hT _ _)) rfl ?_
  refine G_iload_n (pc := 16) 2 3 dX6_join_16 rfl rfl ?_
  refine G_zald (pc := 17) dX6_join_17 (mg_17 (by first | assumption | omega | exact ⟨by omega, by omega⟩ | exact hS _ _ | exact hT _ _)) ⟨by omega, by omega, by omega, by omega⟩ ?_
  refine G_istore_e (pc := 18) (fun zw => [(5, .int (zI zw)), (4, .ref (ad (15, g, 0, 0))), (0, .ref (ad (0, 0, 0, 0))), (1, .int (zI g)), (2, .int (zI r)), (3, .int (zI b))]) dX6_join_18 (by decide) (fun _ => rfl) (fun v18 e18 => ?_)
  refine G_aload (pc := 20) 1 dX6_join_20 rfl ?_
  refine G_getf (pc := 22) fl_X6_193 dX6_join_22 (mg_15 (by first | assumption | omega | exact ⟨by omega, by omega⟩ | exact hS _ _ | exact hT _ _)) rfl ?_
  refine G_iload_n (pc := 25) 2 4 dX6_join_25 rfl rfl ?_
  refine G_iload_n (pc := 26) 3 5 dX6_join_26 rfl rfl ?_
  refine G_zast (pc := 27) dX6_join_27 (mg_17 (by first | assumption | omega | exact ⟨by omega, by omega⟩ | exact hS _ _ | exact hT _ _)) ⟨by omega, by omega, by omega, by omega⟩ (by first | exact zb_ite | omega) (mp_17 _ _ (by first | assumption | omega | exact ⟨by omega, by omega⟩ | exact hS _ _ | exact hT _ _)) ?_
  refine G_name (fun S1_27 hS1_27 => ?_)
  rw [← hS1_27] at hW1
  refine G_aload (pc := 28) 1 dX6_join_28 rfl ?_
  refine G_callVv (pc := 30) gk_X6_196 dX6_join_30 (mg_15 (by first | assumption | omega | exact ⟨by omega, by omega⟩ | exact hS _ _ | exact hT _ _)) rfl (c_X0_share (by first | assumption | omega | exact ⟨by omega, by omega⟩ | exact hS _ _ | exact hT _ _) (by first | assumption | omega | exact ⟨by omega, by omega⟩ | exact hS _ _ | exact hT _ _) (by first | assumption | omega | exact ⟨by omega, by omega⟩ | exact hS _ _ | exact hT _ _)) rfl rfl (Nat.le_of_ble_eq_true rfl) ⟨⟨Nat.le_of_ble_eq_true rfl, Nat.le_of_ble_eq_true rfl⟩, Nat.le_of_ble_eq_true rfl, Nat.le_of_ble_eq_true rfl⟩ ?_
  refine G_name (fun S2_30 hS2_30 => ?_)
  refine G_iload (pc := 33) 0 dX6_join_33 rfl ?_
  exact G_zret_m (pc := 35) hF dX6_join_35 ⟨Nat.le_of_ble_eq_true rfl, Nat.le_of_ble_eq_true rfl⟩ (by first | exact zb_ite | omega) (by first | exact (if_pos (by first | assumption | omega)).symm | exact (if_neg (by first | assumption | omega)).symm | rfl | omega) (by rw [hS2_30, hS1_27])
set_option maxHeartbeats 4000000 in
set_option maxRecDepth 100000 in
theorem c_X6_join_xa {l : Launch} {Δ : zDl} {ad : zK → Nat} {P : zP} {S : zS} {X : zMem} {g r b : Int} (hP : zWP P) (hW : zWS P S) (hr : zR g) (hn : ¬ (0 ≤ g ∧ g < P 3 0 0)) (hst : l.stackTraces = false) : zMx l Δ yX6_join cX6_join 6 (some .boolean) 9 1 6 [.ref (ad (0, 0, 0, 0)), .int (zI g), .int (zI r), .int (zI b)] ad (mm Δ ad P S X) zF0 (zE "java/lang/IndexOutOfBoundsException" ad (mm Δ ad P S X)) := by
  refine zMx_of hst (by decide) (Nat.le_of_ble_eq_true rfl) (fun Γ hl hΔ hF hX => ?_)
  subst hl hΔ
  show G Γ _ _ _ RX6 _ _ _ _ _ [(0, .ref (ad (0, 0, 0, 0))), (1, .int (zI g)), (2, .int (zI r)), (3, .int (zI b))] []
  refine G_aload_n (pc := 0) 0 0 dX6_join_0 rfl rfl ?_
  refine G_iload_n (pc := 1) 1 1 dX6_join_1 rfl rfl ?_
  exact G_callVt (pc := 2) gk_X6_186 dX6_join_2 mg_0 rfl (c_X6_groupAt_x (by first | assumption | omega | exact ⟨by omega, by omega⟩ | exact hS _ _ | exact hT _ _) (by first | assumption | omega | exact ⟨by omega, by omega⟩ | exact hS _ _ | exact hT _ _) (by first | assumption | omega | exact ⟨by omega, by omega⟩ | exact hS _ _ | exact hT _ _) hst) rfl rfl (Nat.le_of_ble_eq_true rfl) ⟨⟨Nat.le_of_ble_eq_true rfl, Nat.le_of_ble_eq_true rfl⟩, Nat.le_of_ble_eq_true rfl, Nat.le_of_ble_eq_true rfl⟩ hX ⟨Nat.le_of_ble_eq_true rfl, Nat.le_of_ble_eq_true rfl⟩ ⟨rfl, rfl, rfl⟩
set_option maxHeartbeats 4000000 in
set_option maxRecDepth 100000 in
theorem c_X6_join_xb {l : Launch} {Δ : zDl} {ad : zK → Nat} {P : zP} {S : zS} {X : zMem} {g r b : Int} (hP : zWP P) (hg : 0 ≤ g ∧ g < P 3 0 0) (hW : zWS P S) (hr : zR r) (hn : ¬ (0 ≤ r ∧ r < 6)) (hst : l.stackTraces = false) : zMx l Δ yX6_join cX6_join 6 (some .boolean) 9 1 6 [.ref (ad (0, 0, 0, 0)), .int (zI g), .int (zI r), .int (zI b)] ad (mm Δ ad P S X) zF0 (zE "java/lang/IndexOutOfBoundsException" ad (mm Δ ad P S X)) := by
  refine zMx_of hst (by decide) (Nat.le_of_ble_eq_true rfl) (fun Γ hl hΔ hF hX => ?_)
  subst hl hΔ
  show G Γ _ _ _ RX6 _ _ _ _ _ [(0, .ref (ad (0, 0, 0, 0))), (1, .int (zI g)), (2, .int (zI r)), (3, .int (zI b))] []
  have hS := hW.R
  have hN := hP.n
  have hk := hW.k
  have hl := hW.l
  have hG := hP.g hg
  have hT := hP.t hG
  refine G_aload_n (pc := 0) 0 0 dX6_join_0 rfl rfl ?_
  refine G_iload_n (pc := 1) 1 1 dX6_join_1 rfl rfl ?_
  refine G_callVd (pc := 2) gk_X6_186 dX6_join_2 mg_0 rfl (c_X6_groupAt (by first | assumption | omega | exact ⟨by omega, by omega⟩ | exact hS _ _ | exact hT _ _) (by first | assumption | omega | exact ⟨by omega, by omega⟩ | exact hS _ _ | exact hT _ _)) rfl rfl (Nat.le_of_ble_eq_true rfl) ⟨⟨Nat.le_of_ble_eq_true rfl, Nat.le_of_ble_eq_true rfl⟩, Nat.le_of_ble_eq_true rfl, Nat.le_of_ble_eq_true rfl⟩ ?_
  refine G_astore (pc := 5) [(4, .ref (ad (15, g, 0, 0))), (0, .ref (ad (0, 0, 0, 0))), (1, .int (zI g)), (2, .int (zI r)), (3, .int (zI b))] dX6_join_5 (by decide) rfl ?_
  refine G_iload_n (pc := 7) 2 3 dX6_join_7 rfl rfl ?_
  exact G_callSt (pc := 8) gk_X6_190 dX6_join_8 (c_X6_refuseOtherReaders_x (by first | assumption | omega | exact ⟨by omega, by omega⟩ | exact hS _ _ | exact hT _ _) (by first | assumption | omega | exact ⟨by omega, by omega⟩ | exact hS _ _ | exact hT _ _) hst) rfl rfl (Nat.le_of_ble_eq_true rfl) ⟨⟨Nat.le_of_ble_eq_true rfl, Nat.le_of_ble_eq_true rfl⟩, Nat.le_of_ble_eq_true rfl, Nat.le_of_ble_eq_true rfl⟩ hX ⟨Nat.le_of_ble_eq_true rfl, Nat.le_of_ble_eq_true rfl⟩ ⟨rfl, rfl, rfl⟩
set_option maxHeartbeats 4000000 in
set_option maxRecDepth 100000 in
theorem c_X6_join_x {l : Launch} {Δ : zDl} {ad : zK → Nat} {P : zP} {S : zS} {X : zMem} {g r b : Int} (hP : zWP P) (hW : zWS P S) (hr : zR g) (hq : zR r) (hn : ¬ ((0 ≤ g ∧ g < P 3 0 0) ∧ (0 ≤ r ∧ r < 6))) (hst : l.stackTraces = false) : zMx l Δ yX6_join cX6_join 6 (some .boolean) 9 1 6 [.ref (ad (0, 0, 0, 0)), .int (zI g), .int (zI r), .int (zI b)] ad (mm Δ ad P S X) zF0 (zE "java/lang/IndexOutOfBoundsException" ad (mm Δ ad P S X)) := by
  by_cases hg : 0 ≤ g ∧ g < P 3 0 0
  · exact c_X6_join_xb hP hg hW hq (fun q => hn ⟨hg, q⟩) hst
  · exact c_X6_join_xa hP hW hr hg hst
set_option maxHeartbeats 4000000 in
set_option maxRecDepth 100000 in
theorem c_X6_take_n {l : Launch} {Δ : zDl} {ad : zK → Nat} {P : zP} {S : zS} {X : zMem} {g r : Int} (hP : zWP P) (hg : 0 ≤ g ∧ g < P 3 0 0) (hW : zWS P S) (hx : 0 ≤ r ∧ r < 6) (h1 : ¬ S (17, g, 0, 0) r = 0) (hz : znp P S g r (S (0, 0, 0, 0) 6) = -1) : zMn l Δ yX6_take cX6_take 7 (some .int) 9 0 0 [.ref (ad (0, 0, 0, 0)), .int (zI g), .int (zI r)] ad (mm Δ ad P S X) (zD (some (.int (zI (-1)))) ad (mm Δ ad P S X)) := by
  refine zMn_of (by decide) (Nat.le_of_ble_eq_true rfl) (fun Γ hl hΔ hF => ?_)
  subst hl hΔ
  show G Γ _ _ _ RX6 _ _ _ _ _ [(0, .ref (ad (0, 0, 0, 0))), (1, .int (zI g)), (2, .int (zI r))] []
  have hS := hW.R
  have hN := hP.n
  have hk := hW.k
  have hl := hW.l
  have hG := hP.g hg
  have hT := hP.t hG
  refine G_aload_n (pc := 0) 0 0 dX6_take_0 rfl rfl ?_
  refine G_iload_n (pc := 1) 1 1 dX6_take_1 rfl rfl ?_
  refine G_callVd (pc := 2) gk_X6_186 dX6_take_2 mg_0 rfl (c_X6_groupAt (by first | assumption | omega | exact ⟨by omega, by omega⟩ | exact hS _ _ | exact hT _ _) (by first | assumption | omega | exact ⟨by omega, by omega⟩ | exact hS _ _ | exact hT _ _)) rfl rfl (Nat.le_of_ble_eq_true rfl) ⟨⟨Nat.le_of_ble_eq_true rfl, Nat.le_of_ble_eq_true rfl⟩, Nat.le_of_ble_eq_true rfl, Nat.le_of_ble_eq_true rfl⟩ ?_
  refine G_astore_n (pc := 5) 3 [(3, .ref (ad (15, g, 0, 0))), (0, .ref (ad (0, 0, 0, 0))), (1, .int (zI g)), (2, .int (zI r))] dX6_take_5 rfl (by decide) rfl ?_
  refine G_iload_n (pc := 6) 2 3 dX6_take_6 rfl rfl ?_
  refine G_callSv (pc := 7) gk_X6_190 dX6_take_7 (c_X6_refuseOtherReaders (by first | assumption | omega | exact ⟨by omega, by omega⟩ | exact hS _ _ | exact hT _ _)) rfl rfl (Nat.le_of_ble_eq_true rfl) ⟨⟨Nat.le_of_ble_eq_true rfl, Nat.le_of_ble_eq_true rfl⟩, Nat.le_of_ble_eq_true rfl, Nat.le_of_ble_eq_true rfl⟩ ?_
  refine G_aload_n (pc := 10) 3 0 dX6_take_10 rfl rfl ?_
  refine G_getf (pc := 11) fl_X6_193 dX6_take_11 (mg_15 (by first | assumption | omega | exact ⟨by omega, by omega⟩ | exact hS _ _ | exact hT _ _)) rfl ?_
  refine G_iload_n (pc := 14) 2 3 dX6_take_14 rfl rfl ?_
  refine G_zald (pc := 15) dX6_take_15 (mg_17 (by first | assumption | omega | exact ⟨by omega, by omega⟩ | exact hS _ _ | exact hT _ _)) ⟨by omega, by omega, by omega, by omega⟩ ?_
  refine G_if_ne (pc := 16) 29 dX6_take_16 (by decide) (by first | exact hS _ _ | exact hT _ _ | exact ⟨by omega, by omega⟩ | assumption) (fun c16 => ?_) (fun c16 => ?_)
  · refine G_aload_n (pc := 29) 3 0 dX6_take_29 rfl rfl ?_
    refine G_iload_n (pc := 30) 2 3 dX6_take_30 rfl rfl ?_
    refine G_aload_n (pc := 31) 0 1 dX6_take_31 rfl rfl ?_
    refine G_getf (pc := 32) fl_X6_37 dX6_take_32 mg_0 rfl ?_
    refine G_callVd (pc := 35) gk_X6_201 dX6_take_35 (mg_15 (by first | assumption | omega | exact ⟨by omega, by omega⟩ | exact hS _ _ | exact hT _ _)) rfl (c_X0_nextPlace (by first | assumption | omega | exact ⟨by omega, by omega⟩ | exact hS _ _ | exact hT _ _) (by first | assumption | omega | exact ⟨by omega, by omega⟩ | exact hS _ _ | exact hT _ _) (by first | assumption | omega | exact ⟨by omega, by omega⟩ | exact hS _ _ | exact hT _ _) (by first | assumption | omega | exact ⟨by omega, by omega⟩ | exact hS _ _ | exact hT _ _) (by first | assumption | omega | exact ⟨by omega, by omega⟩ | exact hS _ _ | exact hT _ _)) rfl rfl (Nat.le_of_ble_eq_true rfl) ⟨⟨Nat.le_of_ble_eq_true rfl, Nat.le_of_ble_eq_true rfl⟩, Nat.le_of_ble_eq_true rfl, Nat.le_of_ble_eq_true rfl⟩ ?_
    refine G_istore_e (pc := 38) (fun zw => [(4, .int (zI zw)), (3, .ref (ad (15, g, 0, 0))), (0, .ref (ad (0, 0, 0, 0))), (1, .int (zI g)), (2, .int (zI r))]) dX6_take_38 (by decide) (fun _ => rfl) (fun v38 e38 => ?_)
    refine G_iload (pc := 40) 0 dX6_take_40 rfl ?_
    refine G_iconst (pc := 42) dX6_take_42 ?_
    refine G_icmp_eq (pc := 43) 93 dX6_take_43 (by decide) (by first | exact hS _ _ | exact hT _ _ | exact ⟨by omega, by omega⟩ | assumption) (by first | exact hS _ _ | exact hT _ _ | exact ⟨by omega, by omega⟩ | assumption) (fun c43 => ?_) (fun c43 => ?_)
    · refine G_iload (pc := 93) 0 dX6_take_93 rfl ?_
      exact G_iret_d (pc := 95) hF dX6_take_95 ⟨Nat.le_of_ble_eq_true rfl, Nat.le_of_ble_eq_true rfl⟩ (by first | rfl | omega | simp_all)
    · exfalso
      omega
  · exfalso
    omega
set_option maxHeartbeats 4000000 in
set_option maxRecDepth 100000 in
theorem c_X6_take_o {l : Launch} {Δ : zDl} {ad : zK → Nat} {P : zP} {S : zS} {X : zMem} {g r p o : Int} (hP : zWP P) (hg : 0 ≤ g ∧ g < P 3 0 0) (hp : 0 ≤ p ∧ p < P 1 (P 4 g 0) 0) (hW : zWS P S) (hx : 0 ≤ r ∧ r < 6) (ho : 0 ≤ o ∧ o < P 2 (P 4 g 0) p) (h1 : ¬ S (17, g, 0, 0) r = 0) (hz : znp P S g r (S (0, 0, 0, 0) 6) = 100 * p + o) (ht2 : S (20, g, p, 0) o ≤ 2) : zMn l Δ yX6_take cX6_take 7 (some .int) 9 0 0 [.ref (ad (0, 0, 0, 0)), .int (zI g), .int (zI r)] ad (mm Δ ad P S X) (zD (some (.int (zI (100 * p + o)))) ad (mm Δ ad P (zlw (zgv S g p o (S (0, 0, 0, 0) 6)) 0 g p o (S (0, 0, 0, 0) 6)) X)) := by
  refine zMn_of (by decide) (Nat.le_of_ble_eq_true rfl) (fun Γ hl hΔ hF => ?_)
  subst hl hΔ
  show G Γ _ _ _ RX6 _ _ _ _ _ [(0, .ref (ad (0, 0, 0, 0))), (1, .int (zI g)), (2, .int (zI r))] []
  have hS := hW.R
  have hN := hP.n
  have hk := hW.k
  have hl := hW.l
  have hG := hP.g hg
  have hT := hP.t hG
  have hM := hP.m hG hp
  have hW5 := hW.m hg hp
  refine G_aload_n (pc := 0) 0 0 dX6_take_0 rfl rfl ?_
  refine G_iload_n (pc := 1) 1 1 dX6_take_1 rfl rfl ?_
  refine G_callVd (pc := 2) gk_X6_186 dX6_take_2 mg_0 rfl (c_X6_groupAt (by first | assumption | omega | exact ⟨by omega, by omega⟩ | exact hS _ _ | exact hT _ _) (by first | assumption | omega | exact ⟨by omega, by omega⟩ | exact hS _ _ | exact hT _ _)) rfl rfl (Nat.le_of_ble_eq_true rfl) ⟨⟨Nat.le_of_ble_eq_true rfl, Nat.le_of_ble_eq_true rfl⟩, Nat.le_of_ble_eq_true rfl, Nat.le_of_ble_eq_true rfl⟩ ?_
  refine G_astore_n (pc := 5) 3 [(3, .ref (ad (15, g, 0, 0))), (0, .ref (ad (0, 0, 0, 0))), (1, .int (zI g)), (2, .int (zI r))] dX6_take_5 rfl (by decide) rfl ?_
  refine G_iload_n (pc := 6) 2 3 dX6_take_6 rfl rfl ?_
  refine G_callSv (pc := 7) gk_X6_190 dX6_take_7 (c_X6_refuseOtherReaders (by first | assumption | omega | exact ⟨by omega, by omega⟩ | exact hS _ _ | exact hT _ _)) rfl rfl (Nat.le_of_ble_eq_true rfl) ⟨⟨Nat.le_of_ble_eq_true rfl, Nat.le_of_ble_eq_true rfl⟩, Nat.le_of_ble_eq_true rfl, Nat.le_of_ble_eq_true rfl⟩ ?_
  refine G_aload_n (pc := 10) 3 0 dX6_take_10 rfl rfl ?_
  refine G_getf (pc := 11) fl_X6_193 dX6_take_11 (mg_15 (by first | assumption | omega | exact ⟨by omega, by omega⟩ | exact hS _ _ | exact hT _ _)) rfl ?_
  refine G_iload_n (pc := 14) 2 3 dX6_take_14 rfl rfl ?_
  refine G_zald (pc := 15) dX6_take_15 (mg_17 (by first | assumption | omega | exact ⟨by omega, by omega⟩ | exact hS _ _ | exact hT _ _)) ⟨by omega, by omega, by omega, by omega⟩ ?_
  refine G_if_ne (pc := 16) 29 dX6_take_16 (by decide) (by first | exact hS _ _ | exact hT _ _ | exact ⟨by omega, by omega⟩ | assumption) (fun c16 => ?_) (fun c16 => ?_)
  · refine G_aload_n (pc := 29) 3 0 dX6_take_29 rfl rfl ?_
    refine G_iload_n (pc := 30) 2 3 dX6_take_30 rfl rfl ?_
    refine G_aload_n (pc := 31) 0 1 dX6_take_31 rfl rfl ?_
    refine G_getf (pc := 32) fl_X6_37 dX6_take_32 mg_0 rfl ?_
    refine G_callVd (pc := 35) gk_X6_201 dX6_take_35 (mg_15 (by first | assumption | omega | exact ⟨by omega, by omega⟩ | exact hS _ _ | exact hT _ _)) rfl (c_X0_nextPlace (by first | assumption | omega | exact ⟨by omega, by omega⟩ | exact hS _ _ | exact hT _ _) (by first | assumption | omega | exact ⟨by omega, by omega⟩ | exact hS _ _ | exact hT _ _) (by first | assumption | omega | exact ⟨by omega, by omega⟩ | exact hS _ _ | exact hT _ _) (by first | assumption | omega | exact ⟨by omega, by omega⟩ | exact hS _ _ | exact hT _ _) (by first | assumption | omega | exact ⟨by omega, by omega⟩ | exact hS _ _ | exact hT _ _)) rfl rfl (Nat.le_of_ble_eq_true rfl) ⟨⟨Nat.le_of_ble_eq_true rfl, Nat.le_of_ble_eq_true rfl⟩, Nat.le_of_ble_eq_true rfl, Nat.le_of_ble_eq_true rfl⟩ ?_
    refine G_istore_e (pc := 38) (fun zw => [(4, .int (zI zw)), (3, .ref (ad (15, g, 0, 0))), (0, .ref (ad (0, 0, 0, 0))), (1, .int (zI g)), (2, .int (zI r))]) dX6_take_38 (by decide) (fun _ => rfl) (fun v38 e38 => ?_)
    refine G_iload (pc := 40) 0 dX6_take_40 rfl ?_
    refine G_iconst (pc := 42) dX6_take_42 ?_
    refine G_icmp_eq (pc := 43) 93 dX6_take_43 (by decide) (by first | exact hS _ _ | exact hT _ _ | exact ⟨by omega, by omega⟩ | assumption) (by first | exact hS _ _ | exact hT _ _ | exact ⟨by omega, by omega⟩ | assumption) (fun c43 => ?_) (fun c43 => ?_)
    · exfalso
      omega
    · refine G_iload (pc := 46) 0 dX6_take_46 rfl ?_
      refine G_bipush (pc := 48) dX6_take_48 (by decide) ?_
      refine G_idiv (pc := 50) dX6_take_50 ⟨by omega, by omega, by omega⟩ ⟨by omega, by omega, by omega⟩ ?_
      refine G_istore_e (pc := 51) (fun zw => [(5, .int (zI zw)), (4, .int (zI v38)), (3, .ref (ad (15, g, 0, 0))), (0, .ref (ad (0, 0, 0, 0))), (1, .int (zI g)), (2, .int (zI r))]) dX6_take_51 (by decide) (fun _ => rfl) (fun v51 e51 => ?_)
      refine G_iload (pc := 53) 1 dX6_take_53 rfl ?_
      refine G_bipush (pc := 55) dX6_take_55 (by decide) ?_
      refine G_irem (pc := 57) dX6_take_57 ⟨by omega, by omega, by omega⟩ ⟨by omega, by omega, by omega⟩ ?_
      refine G_istore_e (pc := 58) (fun zw => [(6, .int (zI zw)), (5, .int (zI v51)), (4, .int (zI v38)), (3, .ref (ad (15, g, 0, 0))), (0, .ref (ad (0, 0, 0, 0))), (1, .int (zI g)), (2, .int (zI r))]) dX6_take_58 (by decide) (fun _ => rfl) (fun v58 e58 => ?_)
      have hz5 : v51 = p := by omega
      have hz6 : v58 = o := by omega
      clear e51 e58
      subst hz5 hz6
      refine G_aload_n (pc := 60) 3 3 dX6_take_60 rfl rfl ?_
      refine G_getf (pc := 61) fl_X6_204 dX6_take_61 (mg_15 (by first | assumption | omega | exact ⟨by omega, by omega⟩ | exact hS _ _ | exact hT _ _)) rfl ?_
      refine G_iload (pc := 64) 1 dX6_take_64 rfl ?_
      refine G_aald (pc := 66) (t := 3) rfl dX6_take_66 (mg_16 (by first | assumption | omega | exact ⟨by omega, by omega⟩ | exact hS _ _ | exact hT _ _)) ⟨by omega, by omega, by omega, by omega⟩ rfl ?_
      refine G_iload (pc := 67) 0 dX6_take_67 rfl ?_
      refine G_aload_n (pc := 69) 0 4 dX6_take_69 rfl rfl ?_
      refine G_getf (pc := 70) fl_X6_37 dX6_take_70 mg_0 rfl ?_
      refine G_callVv (pc := 73) gk_X6_208 dX6_take_73 (mg_18 (by first | assumption | omega | exact ⟨by omega, by omega⟩ | exact hS _ _ | exact hT _ _)) rfl (c_X4_give (by first | assumption | omega | exact ⟨by omega, by omega⟩ | exact hS _ _ | exact hT _ _) (by first | assumption | omega | exact ⟨by omega, by omega⟩ | exact hS _ _ | exact hT _ _) (by first | assumption | omega | exact ⟨by omega, by omega⟩ | exact hS _ _ | exact hT _ _) (by first | assumption | omega | exact ⟨by omega, by omega⟩ | exact hS _ _ | exact hT _ _)) rfl rfl (Nat.le_of_ble_eq_true rfl) ⟨⟨Nat.le_of_ble_eq_true rfl, Nat.le_of_ble_eq_true rfl⟩, Nat.le_of_ble_eq_true rfl, Nat.le_of_ble_eq_true rfl⟩ ?_
      refine G_name (fun S1_73 hS1_73 => ?_)
      have hW1 : zWS P S1_73 := by rw [hS1_73]; exact zgv_W hP hg hp ho hk.1 ht2 hW
      have hz7 : S1_73 (0, 0, 0, 0) 6 = S (0, 0, 0, 0) 6 := by rw [hS1_73]; exact zgv_0
      refine G_aload_n (pc := 76) 0 4 dX6_take_76 rfl rfl ?_
      refine G_getf (pc := 77) fl_X6_22 dX6_take_77 mg_0 rfl ?_
      refine G_iconst (pc := 80) dX6_take_80 ?_
      refine G_iload_n (pc := 81) 1 5 dX6_take_81 rfl rfl ?_
      refine G_iload (pc := 82) 1 dX6_take_82 rfl ?_
      refine G_iload (pc := 84) 0 dX6_take_84 rfl ?_
      refine G_aload_n (pc := 86) 0 4 dX6_take_86 rfl rfl ?_
      refine G_getf (pc := 87) fl_X6_37 dX6_take_87 mg_0 rfl ?_
      refine G_callVv (pc := 90) gk_X6_214 dX6_take_90 mg_1 rfl (c_X1_write (by first | assumption | omega | exact ⟨by omega, by omega⟩ | exact hS _ _ | exact hT _ _)) rfl rfl (Nat.le_of_ble_eq_true rfl) ⟨⟨Nat.le_of_ble_eq_true rfl, Nat.le_of_ble_eq_true rfl⟩, Nat.le_of_ble_eq_true rfl, Nat.le_of_ble_eq_true rfl⟩ ?_
      refine G_name (fun S2_90 hS2_90 => ?_)
      refine G_iload (pc := 93) 2 dX6_take_93 rfl ?_
      exact G_iret_m (pc := 95) hF dX6_take_95 ⟨Nat.le_of_ble_eq_true rfl, Nat.le_of_ble_eq_true rfl⟩ (by omega) (by rw [hS2_90, hz7, hS1_73])
  · exfalso
    omega
set_option maxHeartbeats 4000000 in
set_option maxRecDepth 100000 in
theorem c_X6_take_xa {l : Launch} {Δ : zDl} {ad : zK → Nat} {P : zP} {S : zS} {X : zMem} {g r : Int} (hP : zWP P) (hW : zWS P S) (hr : zR g) (hn : ¬ (0 ≤ g ∧ g < P 3 0 0)) (hst : l.stackTraces = false) : zMx l Δ yX6_take cX6_take 7 (some .int) 9 1 6 [.ref (ad (0, 0, 0, 0)), .int (zI g), .int (zI r)] ad (mm Δ ad P S X) zF0 (zE "java/lang/IndexOutOfBoundsException" ad (mm Δ ad P S X)) := by
  refine zMx_of hst (by decide) (Nat.le_of_ble_eq_true rfl) (fun Γ hl hΔ hF hX => ?_)
  subst hl hΔ
  show G Γ _ _ _ RX6 _ _ _ _ _ [(0, .ref (ad (0, 0, 0, 0))), (1, .int (zI g)), (2, .int (zI r))] []
  refine G_aload_n (pc := 0) 0 0 dX6_take_0 rfl rfl ?_
  refine G_iload_n (pc := 1) 1 1 dX6_take_1 rfl rfl ?_
  exact G_callVt (pc := 2) gk_X6_186 dX6_take_2 mg_0 rfl (c_X6_groupAt_x (by first | assumption | omega | exact ⟨by omega, by omega⟩ | exact hS _ _ | exact hT _ _) (by first | assumption | omega | exact ⟨by omega, by omega⟩ | exact hS _ _ | exact hT _ _) (by first | assumption | omega | exact ⟨by omega, by omega⟩ | exact hS _ _ | exact hT _ _) hst) rfl rfl (Nat.le_of_ble_eq_true rfl) ⟨⟨Nat.le_of_ble_eq_true rfl, Nat.le_of_ble_eq_true rfl⟩, Nat.le_of_ble_eq_true rfl, Nat.le_of_ble_eq_true rfl⟩ hX ⟨Nat.le_of_ble_eq_true rfl, Nat.le_of_ble_eq_true rfl⟩ ⟨rfl, rfl, rfl⟩
set_option maxHeartbeats 4000000 in
set_option maxRecDepth 100000 in
theorem c_X6_take_xb {l : Launch} {Δ : zDl} {ad : zK → Nat} {P : zP} {S : zS} {X : zMem} {g r : Int} (hP : zWP P) (hg : 0 ≤ g ∧ g < P 3 0 0) (hW : zWS P S) (hr : zR r) (hn : ¬ (0 ≤ r ∧ r < 6)) (hst : l.stackTraces = false) : zMx l Δ yX6_take cX6_take 7 (some .int) 9 1 6 [.ref (ad (0, 0, 0, 0)), .int (zI g), .int (zI r)] ad (mm Δ ad P S X) zF0 (zE "java/lang/IndexOutOfBoundsException" ad (mm Δ ad P S X)) := by
  refine zMx_of hst (by decide) (Nat.le_of_ble_eq_true rfl) (fun Γ hl hΔ hF hX => ?_)
  subst hl hΔ
  show G Γ _ _ _ RX6 _ _ _ _ _ [(0, .ref (ad (0, 0, 0, 0))), (1, .int (zI g)), (2, .int (zI r))] []
  have hS := hW.R
  have hN := hP.n
  have hk := hW.k
  have hl := hW.l
  have hG := hP.g hg
  have hT := hP.t hG
  refine G_aload_n (pc := 0) 0 0 dX6_take_0 rfl rfl ?_
  refine G_iload_n (pc := 1) 1 1 dX6_take_1 rfl rfl ?_
  refine G_callVd (pc := 2) gk_X6_186 dX6_take_2 mg_0 rfl (c_X6_groupAt (by first | assumption | omega | exact ⟨by omega, by omega⟩ | exact hS _ _ | exact hT _ _) (by first | assumption | omega | exact ⟨by omega, by omega⟩ | exact hS _ _ | exact hT _ _)) rfl rfl (Nat.le_of_ble_eq_true rfl) ⟨⟨Nat.le_of_ble_eq_true rfl, Nat.le_of_ble_eq_true rfl⟩, Nat.le_of_ble_eq_true rfl, Nat.le_of_ble_eq_true rfl⟩ ?_
  refine G_astore_n (pc := 5) 3 [(3, .ref (ad (15, g, 0, 0))), (0, .ref (ad (0, 0, 0, 0))), (1, .int (zI g)), (2, .int (zI r))] dX6_take_5 rfl (by decide) rfl ?_
  refine G_iload_n (pc := 6) 2 3 dX6_take_6 rfl rfl ?_
  exact G_callSt (pc := 7) gk_X6_190 dX6_take_7 (c_X6_refuseOtherReaders_x (by first | assumption | omega | exact ⟨by omega, by omega⟩ | exact hS _ _ | exact hT _ _) (by first | assumption | omega | exact ⟨by omega, by omega⟩ | exact hS _ _ | exact hT _ _) hst) rfl rfl (Nat.le_of_ble_eq_true rfl) ⟨⟨Nat.le_of_ble_eq_true rfl, Nat.le_of_ble_eq_true rfl⟩, Nat.le_of_ble_eq_true rfl, Nat.le_of_ble_eq_true rfl⟩ hX ⟨Nat.le_of_ble_eq_true rfl, Nat.le_of_ble_eq_true rfl⟩ ⟨rfl, rfl, rfl⟩
set_option maxHeartbeats 4000000 in
set_option maxRecDepth 100000 in
theorem c_X6_take_x {l : Launch} {Δ : zDl} {ad : zK → Nat} {P : zP} {S : zS} {X : zMem} {g r : Int} (hP : zWP P) (hW : zWS P S) (hr : zR g) (hq : zR r) (hn : ¬ ((0 ≤ g ∧ g < P 3 0 0) ∧ (0 ≤ r ∧ r < 6))) (hst : l.stackTraces = false) : zMx l Δ yX6_take cX6_take 7 (some .int) 9 1 6 [.ref (ad (0, 0, 0, 0)), .int (zI g), .int (zI r)] ad (mm Δ ad P S X) zF0 (zE "java/lang/IndexOutOfBoundsException" ad (mm Δ ad P S X)) := by
  by_cases hg : 0 ≤ g ∧ g < P 3 0 0
  · exact c_X6_take_xb hP hg hW hq (fun q => hn ⟨hg, q⟩) hst
  · exact c_X6_take_xa hP hW hr hg hst
set_option maxHeartbeats 4000000 in
set_option maxRecDepth 100000 in
theorem c_X6_take_y {l : Launch} {Δ : zDl} {ad : zK → Nat} {P : zP} {S : zS} {X : zMem} {g r : Int} (hP : zWP P) (hg : 0 ≤ g ∧ g < P 3 0 0) (hW : zWS P S) (hx : 0 ≤ r ∧ r < 6) (h1 : S (17, g, 0, 0) r = 0) (hst : l.stackTraces = false) : zMx l Δ yX6_take cX6_take 7 (some .int) 9 1 6 [.ref (ad (0, 0, 0, 0)), .int (zI g), .int (zI r)] ad (mm Δ ad P S X) zF0 (zE "java/lang/IllegalStateException" ad (mm Δ ad P S X)) := by
  refine zMx_of hst (by decide) (Nat.le_of_ble_eq_true rfl) (fun Γ hl hΔ hF hX => ?_)
  subst hl hΔ
  show G Γ _ _ _ RX6 _ _ _ _ _ [(0, .ref (ad (0, 0, 0, 0))), (1, .int (zI g)), (2, .int (zI r))] []
  have hS := hW.R
  have hN := hP.n
  have hk := hW.k
  have hl := hW.l
  have hG := hP.g hg
  have hT := hP.t hG
  refine G_aload_n (pc := 0) 0 0 dX6_take_0 rfl rfl ?_
  refine G_iload_n (pc := 1) 1 1 dX6_take_1 rfl rfl ?_
  refine G_callVd (pc := 2) gk_X6_186 dX6_take_2 mg_0 rfl (c_X6_groupAt (by first | assumption | omega | exact ⟨by omega, by omega⟩ | exact hS _ _ | exact hT _ _) (by first | assumption | omega | exact ⟨by omega, by omega⟩ | exact hS _ _ | exact hT _ _)) rfl rfl (Nat.le_of_ble_eq_true rfl) ⟨⟨Nat.le_of_ble_eq_true rfl, Nat.le_of_ble_eq_true rfl⟩, Nat.le_of_ble_eq_true rfl, Nat.le_of_ble_eq_true rfl⟩ ?_
  refine G_astore_n (pc := 5) 3 [(3, .ref (ad (15, g, 0, 0))), (0, .ref (ad (0, 0, 0, 0))), (1, .int (zI g)), (2, .int (zI r))] dX6_take_5 rfl (by decide) rfl ?_
  refine G_iload_n (pc := 6) 2 3 dX6_take_6 rfl rfl ?_
  refine G_callSv (pc := 7) gk_X6_190 dX6_take_7 (c_X6_refuseOtherReaders (by first | assumption | omega | exact ⟨by omega, by omega⟩ | exact hS _ _ | exact hT _ _)) rfl rfl (Nat.le_of_ble_eq_true rfl) ⟨⟨Nat.le_of_ble_eq_true rfl, Nat.le_of_ble_eq_true rfl⟩, Nat.le_of_ble_eq_true rfl, Nat.le_of_ble_eq_true rfl⟩ ?_
  refine G_aload_n (pc := 10) 3 0 dX6_take_10 rfl rfl ?_
  refine G_getf (pc := 11) fl_X6_193 dX6_take_11 (mg_15 (by first | assumption | omega | exact ⟨by omega, by omega⟩ | exact hS _ _ | exact hT _ _)) rfl ?_
  refine G_iload_n (pc := 14) 2 3 dX6_take_14 rfl rfl ?_
  refine G_zald (pc := 15) dX6_take_15 (mg_17 (by first | assumption | omega | exact ⟨by omega, by omega⟩ | exact hS _ _ | exact hT _ _)) ⟨by omega, by omega, by omega, by omega⟩ ?_
  refine G_if_ne (pc := 16) 29 dX6_take_16 (by decide) (by first | exact hS _ _ | exact hT _ _ | exact ⟨by omega, by omega⟩ | assumption) (fun c16 => ?_) (fun c16 => ?_)
  · exfalso
    omega
  · exact G_throw (text := "the reader is not in the group") hX tw_65 rfl (by decide) dX6_take_19 dX6_take_22 dX6_take_23 dX6_take_25 dX6_take_28 ⟨⟨Nat.le_of_ble_eq_true rfl, Nat.le_of_ble_eq_true rfl⟩, Nat.le_of_ble_eq_true rfl, Nat.le_of_ble_eq_true rfl⟩ ⟨Nat.le_of_ble_eq_true rfl, Nat.le_of_ble_eq_true rfl⟩ ⟨rfl, rfl, rfl⟩
set_option maxHeartbeats 4000000 in
set_option maxRecDepth 100000 in
theorem c_X6_ack {l : Launch} {Δ : zDl} {ad : zK → Nat} {P : zP} {S : zS} {X : zMem} {g p o : Int} (hP : zWP P) (hg : 0 ≤ g ∧ g < P 3 0 0) (hp : 0 ≤ p ∧ p < P 1 (P 4 g 0) 0) (hW : zWS P S) (ho : (0 ≤ o ∧ o < P 2 (P 4 g 0) p) ∧ S (19, g, p, 0) o = 1) : zMn l Δ yX6_ack cX6_ack 5 (some .int) 9 0 0 [.ref (ad (0, 0, 0, 0)), .int (zI g), .int (zI p), .int (zI o)] ad (mm Δ ad P S X) (zD (some (.int (zI ((zlw (zku P (zst S (19, g, p, 0) o 3) g p) 1 g p o (S (0, 0, 0, 0) 6)) (18, g, p, 0) 5)))) ad (mm Δ ad P (zlw (zku P (zst S (19, g, p, 0) o 3) g p) 1 g p o (S (0, 0, 0, 0) 6)) X)) := by
  refine zMn_of (by decide) (Nat.le_of_ble_eq_true rfl) (fun Γ hl hΔ hF => ?_)
  subst hl hΔ
  show G Γ _ _ _ RX6 _ _ _ _ _ [(0, .ref (ad (0, 0, 0, 0))), (1, .int (zI g)), (2, .int (zI p)), (3, .int (zI o))] []
  have hS := hW.R
  have hN := hP.n
  have hk := hW.k
  have hl := hW.l
  have hG := hP.g hg
  have hT := hP.t hG
  have hM := hP.m hG hp
  have hW5 := hW.m hg hp
  have hW1 : zWS P (zst S (19, g, p, 0) o 3) := hW.s19 ⟨by omega, by omega⟩ (fun q => by omega)
  refine G_aload_n (pc := 0) 0 0 dX6_ack_0 rfl rfl ?_
  refine G_iload_n (pc := 1) 1 1 dX6_ack_1 rfl rfl ?_
  refine G_iload_n (pc := 2) 2 2 dX6_ack_2 rfl rfl ?_
  refine G_callVd (pc := 3) gk_X6_217 dX6_ack_3 mg_0 rfl (c_X6_progressAt (by first | assumption | omega | exact ⟨by omega, by omega⟩ | exact hS _ _ | exact hT _ _) (by first | assumption | omega | exact ⟨by omega, by omega⟩ | exact hS _ _ | exact hT _ _) (by first | assumption | omega | exact ⟨by omega, by omega⟩ | exact hS _ _ | exact hT _ _)) rfl rfl (Nat.le_of_ble_eq_true rfl) ⟨⟨Nat.le_of_ble_eq_true rfl, Nat.le_of_ble_eq_true rfl⟩, Nat.le_of_ble_eq_true rfl, Nat.le_of_ble_eq_true rfl⟩ ?_
  refine G_astore (pc := 6) [(4, .ref (ad (18, g, p, 0))), (0, .ref (ad (0, 0, 0, 0))), (1, .int (zI g)), (2, .int (zI p)), (3, .int (zI o))] dX6_ack_6 (by decide) rfl ?_
  refine G_aload (pc := 8) 0 dX6_ack_8 rfl ?_
  refine G_iload_n (pc := 10) 3 4 dX6_ack_10 rfl rfl ?_
  refine G_callSv (pc := 11) gk_X6_221 dX6_ack_11 (c_X6_refuseUnlessOut (by first | assumption | omega | exact ⟨by omega, by omega⟩ | exact hS _ _ | exact hT _ _) (by first | assumption | omega | exact ⟨by omega, by omega⟩ | exact hS _ _ | exact hT _ _) (by first | assumption | omega | exact ⟨by omega, by omega⟩ | exact hS _ _ | exact hT _ _) (by first | assumption | omega | exact ⟨by omega, by omega⟩ | exact hS _ _ | exact hT _ _) (by first | assumption | omega | exact ⟨by omega, by omega⟩ | exact hS _ _ | exact hT _ _)) rfl rfl (Nat.le_of_ble_eq_true rfl) ⟨⟨Nat.le_of_ble_eq_true rfl, Nat.le_of_ble_eq_true rfl⟩, Nat.le_of_ble_eq_true rfl, Nat.le_of_ble_eq_true rfl⟩ ?_
  refine G_aload (pc := 14) 0 dX6_ack_14 rfl ?_
  refine G_iload_n (pc := 16) 3 4 dX6_ack_16 rfl rfl ?_
  refine G_callVv (pc := 17) gk_X6_225 dX6_ack_17 (mg_18 (by first | assumption | omega | exact ⟨by omega, by omega⟩ | exact hS _ _ | exact hT _ _)) rfl (c_X4_finish (by first | assumption | omega | exact ⟨by omega, by omega⟩ | exact hS _ _ | exact hT _ _) (by first | assumption | omega | exact ⟨by omega, by omega⟩ | exact hS _ _ | exact hT _ _) (by first | assumption | omega | exact ⟨by omega, by omega⟩ | exact hS _ _ | exact hT _ _)) rfl rfl (Nat.le_of_ble_eq_true rfl) ⟨⟨Nat.le_of_ble_eq_true rfl, Nat.le_of_ble_eq_true rfl⟩, Nat.le_of_ble_eq_true rfl, Nat.le_of_ble_eq_true rfl⟩ ?_
  refine G_name (fun S1_17 hS1_17 => ?_)
  rw [← hS1_17] at hW1
  refine G_aload (pc := 20) 0 dX6_ack_20 rfl ?_
  refine G_callVv (pc := 22) gk_X6_228 dX6_ack_22 (mg_18 (by first | assumption | omega | exact ⟨by omega, by omega⟩ | exact hS _ _ | exact hT _ _)) rfl (c_X4_keepUp (by first | assumption | omega | exact ⟨by omega, by omega⟩ | exact hS _ _ | exact hT _ _) (by first | assumption | omega | exact ⟨by omega, by omega⟩ | exact hS _ _ | exact hT _ _) (by first | assumption | omega | exact ⟨by omega, by omega⟩ | exact hS _ _ | exact hT _ _) (by first | assumption | omega | exact ⟨by omega, by omega⟩ | exact hS _ _ | exact hT _ _)) rfl rfl (Nat.le_of_ble_eq_true rfl) ⟨⟨Nat.le_of_ble_eq_true rfl, Nat.le_of_ble_eq_true rfl⟩, Nat.le_of_ble_eq_true rfl, Nat.le_of_ble_eq_true rfl⟩ ?_
  refine G_name (fun S2_22 hS2_22 => ?_)
  have hW2 : zWS P S2_22 := by rw [hS2_22]; exact zku_W hP hg hp hW1
  have hz7 : S2_22 (0, 0, 0, 0) 6 = S (0, 0, 0, 0) 6 := by rw [hS2_22, zku_0, hS1_17, zst_k _ _ _ _ (by simp)]
  refine G_aload_n (pc := 25) 0 1 dX6_ack_25 rfl rfl ?_
  refine G_getf (pc := 26) fl_X6_22 dX6_ack_26 mg_0 rfl ?_
  refine G_iconst (pc := 29) dX6_ack_29 ?_
  refine G_iload_n (pc := 30) 1 2 dX6_ack_30 rfl rfl ?_
  refine G_iload_n (pc := 31) 2 3 dX6_ack_31 rfl rfl ?_
  refine G_iload_n (pc := 32) 3 4 dX6_ack_32 rfl rfl ?_
  refine G_aload_n (pc := 33) 0 1 dX6_ack_33 rfl rfl ?_
  refine G_getf (pc := 34) fl_X6_37 dX6_ack_34 mg_0 rfl ?_
  refine G_callVv (pc := 37) gk_X6_214 dX6_ack_37 mg_1 rfl (c_X1_write (by first | assumption | omega | exact ⟨by omega, by omega⟩ | exact hS _ _ | exact hT _ _)) rfl rfl (Nat.le_of_ble_eq_true rfl) ⟨⟨Nat.le_of_ble_eq_true rfl, Nat.le_of_ble_eq_true rfl⟩, Nat.le_of_ble_eq_true rfl, Nat.le_of_ble_eq_true rfl⟩ ?_
  refine G_name (fun S3_37 hS3_37 => ?_)
  refine G_aload (pc := 40) 0 dX6_ack_40 rfl ?_
  refine G_getf (pc := 42) fl_X6_229 dX6_ack_42 (mg_18 (by first | assumption | omega | exact ⟨by omega, by omega⟩ | exact hS _ _ | exact hT _ _)) rfl ?_
  exact G_iret_m (pc := 45) hF dX6_ack_45 ⟨Nat.le_of_ble_eq_true rfl, Nat.le_of_ble_eq_true rfl⟩ (by rw [hS3_37, hz7, hS2_22, hS1_17]) (by rw [hS3_37, hz7, hS2_22, hS1_17])
set_option maxHeartbeats 4000000 in
set_option maxRecDepth 100000 in
theorem c_X6_ack_x {l : Launch} {Δ : zDl} {ad : zK → Nat} {P : zP} {S : zS} {X : zMem} {g p o : Int} (hP : zWP P) (hW : zWS P S) (hr : zR g) (hq : zR p) (hn : ¬ ((0 ≤ g ∧ g < P 3 0 0) ∧ (0 ≤ p ∧ p < P 1 (P 4 g 0) 0))) (hst : l.stackTraces = false) : zMx l Δ yX6_ack cX6_ack 5 (some .int) 9 1 6 [.ref (ad (0, 0, 0, 0)), .int (zI g), .int (zI p), .int (zI o)] ad (mm Δ ad P S X) zF0 (zE "java/lang/IndexOutOfBoundsException" ad (mm Δ ad P S X)) := by
  refine zMx_of hst (by decide) (Nat.le_of_ble_eq_true rfl) (fun Γ hl hΔ hF hX => ?_)
  subst hl hΔ
  show G Γ _ _ _ RX6 _ _ _ _ _ [(0, .ref (ad (0, 0, 0, 0))), (1, .int (zI g)), (2, .int (zI p)), (3, .int (zI o))] []
  refine G_aload_n (pc := 0) 0 0 dX6_ack_0 rfl rfl ?_
  refine G_iload_n (pc := 1) 1 1 dX6_ack_1 rfl rfl ?_
  refine G_iload_n (pc := 2) 2 2 dX6_ack_2 rfl rfl ?_
  exact G_callVt (pc := 3) gk_X6_217 dX6_ack_3 mg_0 rfl (c_X6_progressAt_x (by first | assumption | omega | exact ⟨by omega, by omega⟩ | exact hS _ _ | exact hT _ _) (by first | assumption | omega | exact ⟨by omega, by omega⟩ | exact hS _ _ | exact hT _ _) (by first | assumption | omega | exact ⟨by omega, by omega⟩ | exact hS _ _ | exact hT _ _) (by first | assumption | omega | exact ⟨by omega, by omega⟩ | exact hS _ _ | exact hT _ _) hst) rfl rfl (Nat.le_of_ble_eq_true rfl) ⟨⟨Nat.le_of_ble_eq_true rfl, Nat.le_of_ble_eq_true rfl⟩, Nat.le_of_ble_eq_true rfl, Nat.le_of_ble_eq_true rfl⟩ hX ⟨Nat.le_of_ble_eq_true rfl, Nat.le_of_ble_eq_true rfl⟩ ⟨rfl, rfl, rfl⟩
set_option maxHeartbeats 4000000 in
set_option maxRecDepth 100000 in
theorem c_X6_ack_y {l : Launch} {Δ : zDl} {ad : zK → Nat} {P : zP} {S : zS} {X : zMem} {g p o : Int} (hP : zWP P) (hg : 0 ≤ g ∧ g < P 3 0 0) (hp : 0 ≤ p ∧ p < P 1 (P 4 g 0) 0) (hW : zWS P S) (hr : zR o) (hn : ¬ ((0 ≤ o ∧ o < P 2 (P 4 g 0) p) ∧ S (19, g, p, 0) o = 1)) (hst : l.stackTraces = false) : zMx l Δ yX6_ack cX6_ack 5 (some .int) 9 1 6 [.ref (ad (0, 0, 0, 0)), .int (zI g), .int (zI p), .int (zI o)] ad (mm Δ ad P S X) zF0 (zE "java/lang/IllegalStateException" ad (mm Δ ad P S X)) := by
  refine zMx_of hst (by decide) (Nat.le_of_ble_eq_true rfl) (fun Γ hl hΔ hF hX => ?_)
  subst hl hΔ
  show G Γ _ _ _ RX6 _ _ _ _ _ [(0, .ref (ad (0, 0, 0, 0))), (1, .int (zI g)), (2, .int (zI p)), (3, .int (zI o))] []
  have hS := hW.R
  have hN := hP.n
  have hk := hW.k
  have hl := hW.l
  have hG := hP.g hg
  have hT := hP.t hG
  have hM := hP.m hG hp
  have hW5 := hW.m hg hp
  refine G_aload_n (pc := 0) 0 0 dX6_ack_0 rfl rfl ?_
  refine G_iload_n (pc := 1) 1 1 dX6_ack_1 rfl rfl ?_
  refine G_iload_n (pc := 2) 2 2 dX6_ack_2 rfl rfl ?_
  refine G_callVd (pc := 3) gk_X6_217 dX6_ack_3 mg_0 rfl (c_X6_progressAt (by first | assumption | omega | exact ⟨by omega, by omega⟩ | exact hS _ _ | exact hT _ _) (by first | assumption | omega | exact ⟨by omega, by omega⟩ | exact hS _ _ | exact hT _ _) (by first | assumption | omega | exact ⟨by omega, by omega⟩ | exact hS _ _ | exact hT _ _)) rfl rfl (Nat.le_of_ble_eq_true rfl) ⟨⟨Nat.le_of_ble_eq_true rfl, Nat.le_of_ble_eq_true rfl⟩, Nat.le_of_ble_eq_true rfl, Nat.le_of_ble_eq_true rfl⟩ ?_
  refine G_astore (pc := 6) [(4, .ref (ad (18, g, p, 0))), (0, .ref (ad (0, 0, 0, 0))), (1, .int (zI g)), (2, .int (zI p)), (3, .int (zI o))] dX6_ack_6 (by decide) rfl ?_
  refine G_aload (pc := 8) 0 dX6_ack_8 rfl ?_
  refine G_iload_n (pc := 10) 3 4 dX6_ack_10 rfl rfl ?_
  exact G_callSt (pc := 11) gk_X6_221 dX6_ack_11 (c_X6_refuseUnlessOut_x (by first | assumption | omega | exact ⟨by omega, by omega⟩ | exact hS _ _ | exact hT _ _) (by first | assumption | omega | exact ⟨by omega, by omega⟩ | exact hS _ _ | exact hT _ _) (by first | assumption | omega | exact ⟨by omega, by omega⟩ | exact hS _ _ | exact hT _ _) (by first | assumption | omega | exact ⟨by omega, by omega⟩ | exact hS _ _ | exact hT _ _) (by first | assumption | omega | exact ⟨by omega, by omega⟩ | exact hS _ _ | exact hT _ _) (by first | assumption | omega | exact ⟨by omega, by omega⟩ | exact hS _ _ | exact hT _ _) hst) rfl rfl (Nat.le_of_ble_eq_true rfl) ⟨⟨Nat.le_of_ble_eq_true rfl, Nat.le_of_ble_eq_true rfl⟩, Nat.le_of_ble_eq_true rfl, Nat.le_of_ble_eq_true rfl⟩ hX ⟨Nat.le_of_ble_eq_true rfl, Nat.le_of_ble_eq_true rfl⟩ ⟨rfl, rfl, rfl⟩
set_option maxHeartbeats 4000000 in
set_option maxRecDepth 100000 in
theorem c_X6_nack {l : Launch} {Δ : zDl} {ad : zK → Nat} {P : zP} {S : zS} {X : zMem} {g p o : Int} (hP : zWP P) (hg : 0 ≤ g ∧ g < P 3 0 0) (hp : 0 ≤ p ∧ p < P 1 (P 4 g 0) 0) (hW : zWS P S) (ho : (0 ≤ o ∧ o < P 2 (P 4 g 0) p) ∧ S (19, g, p, 0) o = 1) : zMn l Δ yX6_nack cX6_nack 6 (some .int) 9 0 0 [.ref (ad (0, 0, 0, 0)), .int (zI g), .int (zI p), .int (zI o)] ad (mm Δ ad P S X) (zD (some (.int (zI (zgbr S g p o (S (0, 0, 0, 0) 6) (S (0, 0, 0, 0) 7))))) ad (mm Δ ad P (zku P (zB S g p o) g p) X)) := by
  refine zMn_of (by decide) (Nat.le_of_ble_eq_true rfl) (fun Γ hl hΔ hF => ?_)
  subst hl hΔ
  show G Γ _ _ _ RX6 _ _ _ _ _ [(0, .ref (ad (0, 0, 0, 0))), (1, .int (zI g)), (2, .int (zI p)), (3, .int (zI o))] []
  have hS := hW.R
  have hN := hP.n
  have hk := hW.k
  have hl := hW.l
  have hG := hP.g hg
  have hT := hP.t hG
  have hM := hP.m hG hp
  have hW5 := hW.m hg hp
  have hc := hW.c g p o
  have hW1 : zWS P (zB S g p o) := zB_W ⟨by omega, by omega⟩ ⟨by omega, by omega⟩ ⟨by omega, by omega⟩ hW
  refine G_aload_n (pc := 0) 0 0 dX6_nack_0 rfl rfl ?_
  refine G_iload_n (pc := 1) 1 1 dX6_nack_1 rfl rfl ?_
  refine G_iload_n (pc := 2) 2 2 dX6_nack_2 rfl rfl ?_
  refine G_callVd (pc := 3) gk_X6_217 dX6_nack_3 mg_0 rfl (c_X6_progressAt (by first | assumption | omega | exact ⟨by omega, by omega⟩ | exact hS _ _ | exact hT _ _) (by first | assumption | omega | exact ⟨by omega, by omega⟩ | exact hS _ _ | exact hT _ _) (by first | assumption | omega | exact ⟨by omega, by omega⟩ | exact hS _ _ | exact hT _ _)) rfl rfl (Nat.le_of_ble_eq_true rfl) ⟨⟨Nat.le_of_ble_eq_true rfl, Nat.le_of_ble_eq_true rfl⟩, Nat.le_of_ble_eq_true rfl, Nat.le_of_ble_eq_true rfl⟩ ?_
  refine G_astore (pc := 6) [(4, .ref (ad (18, g, p, 0))), (0, .ref (ad (0, 0, 0, 0))), (1, .int (zI g)), (2, .int (zI p)), (3, .int (zI o))] dX6_nack_6 (by decide) rfl ?_
  refine G_aload (pc := 8) 0 dX6_nack_8 rfl ?_
  refine G_iload_n (pc := 10) 3 4 dX6_nack_10 rfl rfl ?_
  refine G_callSv (pc := 11) gk_X6_221 dX6_nack_11 (c_X6_refuseUnlessOut (by first | assumption | omega | exact ⟨by omega, by omega⟩ | exact hS _ _ | exact hT _ _) (by first | assumption | omega | exact ⟨by omega, by omega⟩ | exact hS _ _ | exact hT _ _) (by first | assumption | omega | exact ⟨by omega, by omega⟩ | exact hS _ _ | exact hT _ _) (by first | assumption | omega | exact ⟨by omega, by omega⟩ | exact hS _ _ | exact hT _ _) (by first | assumption | omega | exact ⟨by omega, by omega⟩ | exact hS _ _ | exact hT _ _)) rfl rfl (Nat.le_of_ble_eq_true rfl) ⟨⟨Nat.le_of_ble_eq_true rfl, Nat.le_of_ble_eq_true rfl⟩, Nat.le_of_ble_eq_true rfl, Nat.le_of_ble_eq_true rfl⟩ ?_
  refine G_aload_n (pc := 14) 0 1 dX6_nack_14 rfl rfl ?_
  refine G_iload_n (pc := 15) 1 2 dX6_nack_15 rfl rfl ?_
  refine G_iload_n (pc := 16) 2 3 dX6_nack_16 rfl rfl ?_
  refine G_aload (pc := 17) 0 dX6_nack_17 rfl ?_
  refine G_iload_n (pc := 19) 3 4 dX6_nack_19 rfl rfl ?_
  refine G_callVd (pc := 20) gk_X6_232 dX6_nack_20 mg_0 rfl (c_X6_giveBack (by first | assumption | omega | exact ⟨by omega, by omega⟩ | exact hS _ _ | exact hT _ _) (by first | assumption | omega | exact ⟨by omega, by omega⟩ | exact hS _ _ | exact hT _ _) (by first | assumption | omega | exact ⟨by omega, by omega⟩ | exact hS _ _ | exact hT _ _) (by first | assumption | omega | exact ⟨by omega, by omega⟩ | exact hS _ _ | exact hT _ _) (by first | assumption | omega | exact ⟨by omega, by omega⟩ | exact hS _ _ | exact hT _ _) (by first | assumption | omega | exact ⟨by omega, by omega⟩ | exact hS _ _ | exact hT _ _)) rfl rfl (Nat.le_of_ble_eq_true rfl) ⟨⟨Nat.le_of_ble_eq_true rfl, Nat.le_of_ble_eq_true rfl⟩, Nat.le_of_ble_eq_true rfl, Nat.le_of_ble_eq_true rfl⟩ ?_
  refine G_name (fun S1_20 hS1_20 => ?_)
  refine G_istore_e (pc := 23) (fun zw => [(5, .int (zI zw)), (4, .ref (ad (18, g, p, 0))), (0, .ref (ad (0, 0, 0, 0))), (1, .int (zI g)), (2, .int (zI p)), (3, .int (zI o))]) dX6_nack_23 (by decide) (fun _ => rfl) (fun v23 e23 => ?_)
  rw [← hS1_20] at hW1
  refine G_aload (pc := 25) 1 dX6_nack_25 rfl ?_
  refine G_callVv (pc := 27) gk_X6_228 dX6_nack_27 (mg_18 (by first | assumption | omega | exact ⟨by omega, by omega⟩ | exact hS _ _ | exact hT _ _)) rfl (c_X4_keepUp (by first | assumption | omega | exact ⟨by omega, by omega⟩ | exact hS _ _ | exact hT _ _) (by first | assumption | omega | exact ⟨by omega, by omega⟩ | exact hS _ _ | exact hT _ _) (by first | assumption | omega | exact ⟨by omega, by omega⟩ | exact hS _ _ | exact hT _ _) (by first | assumption | omega | exact ⟨by omega, by omega⟩ | exact hS _ _ | exact hT _ _)) rfl rfl (Nat.le_of_ble_eq_true rfl) ⟨⟨Nat.le_of_ble_eq_true rfl, Nat.le_of_ble_eq_true rfl⟩, Nat.le_of_ble_eq_true rfl, Nat.le_of_ble_eq_true rfl⟩ ?_
  refine G_name (fun S2_27 hS2_27 => ?_)
  refine G_iload (pc := 30) 0 dX6_nack_30 rfl ?_
  exact G_iret_m (pc := 32) hF dX6_nack_32 ⟨Nat.le_of_ble_eq_true rfl, Nat.le_of_ble_eq_true rfl⟩ (by first | rfl | omega | simp_all) (by rw [hS2_27, hS1_20])
set_option maxHeartbeats 4000000 in
set_option maxRecDepth 100000 in
theorem c_X6_nack_x {l : Launch} {Δ : zDl} {ad : zK → Nat} {P : zP} {S : zS} {X : zMem} {g p o : Int} (hP : zWP P) (hW : zWS P S) (hr : zR g) (hq : zR p) (hn : ¬ ((0 ≤ g ∧ g < P 3 0 0) ∧ (0 ≤ p ∧ p < P 1 (P 4 g 0) 0))) (hst : l.stackTraces = false) : zMx l Δ yX6_nack cX6_nack 6 (some .int) 9 1 6 [.ref (ad (0, 0, 0, 0)), .int (zI g), .int (zI p), .int (zI o)] ad (mm Δ ad P S X) zF0 (zE "java/lang/IndexOutOfBoundsException" ad (mm Δ ad P S X)) := by
  refine zMx_of hst (by decide) (Nat.le_of_ble_eq_true rfl) (fun Γ hl hΔ hF hX => ?_)
  subst hl hΔ
  show G Γ _ _ _ RX6 _ _ _ _ _ [(0, .ref (ad (0, 0, 0, 0))), (1, .int (zI g)), (2, .int (zI p)), (3, .int (zI o))] []
  refine G_aload_n (pc := 0) 0 0 dX6_nack_0 rfl rfl ?_
  refine G_iload_n (pc := 1) 1 1 dX6_nack_1 rfl rfl ?_
  refine G_iload_n (pc := 2) 2 2 dX6_nack_2 rfl rfl ?_
  exact G_callVt (pc := 3) gk_X6_217 dX6_nack_3 mg_0 rfl (c_X6_progressAt_x (by first | assumption | omega | exact ⟨by omega, by omega⟩ | exact hS _ _ | exact hT _ _) (by first | assumption | omega | exact ⟨by omega, by omega⟩ | exact hS _ _ | exact hT _ _) (by first | assumption | omega | exact ⟨by omega, by omega⟩ | exact hS _ _ | exact hT _ _) (by first | assumption | omega | exact ⟨by omega, by omega⟩ | exact hS _ _ | exact hT _ _) hst) rfl rfl (Nat.le_of_ble_eq_true rfl) ⟨⟨Nat.le_of_ble_eq_true rfl, Nat.le_of_ble_eq_true rfl⟩, Nat.le_of_ble_eq_true rfl, Nat.le_of_ble_eq_true rfl⟩ hX ⟨Nat.le_of_ble_eq_true rfl, Nat.le_of_ble_eq_true rfl⟩ ⟨rfl, rfl, rfl⟩
set_option maxHeartbeats 4000000 in
set_option maxRecDepth 100000 in
theorem c_X6_nack_y {l : Launch} {Δ : zDl} {ad : zK → Nat} {P : zP} {S : zS} {X : zMem} {g p o : Int} (hP : zWP P) (hg : 0 ≤ g ∧ g < P 3 0 0) (hp : 0 ≤ p ∧ p < P 1 (P 4 g 0) 0) (hW : zWS P S) (hr : zR o) (hn : ¬ ((0 ≤ o ∧ o < P 2 (P 4 g 0) p) ∧ S (19, g, p, 0) o = 1)) (hst : l.stackTraces = false) : zMx l Δ yX6_nack cX6_nack 6 (some .int) 9 1 6 [.ref (ad (0, 0, 0, 0)), .int (zI g), .int (zI p), .int (zI o)] ad (mm Δ ad P S X) zF0 (zE "java/lang/IllegalStateException" ad (mm Δ ad P S X)) := by
  refine zMx_of hst (by decide) (Nat.le_of_ble_eq_true rfl) (fun Γ hl hΔ hF hX => ?_)
  subst hl hΔ
  show G Γ _ _ _ RX6 _ _ _ _ _ [(0, .ref (ad (0, 0, 0, 0))), (1, .int (zI g)), (2, .int (zI p)), (3, .int (zI o))] []
  have hS := hW.R
  have hN := hP.n
  have hk := hW.k
  have hl := hW.l
  have hG := hP.g hg
  have hT := hP.t hG
  have hM := hP.m hG hp
  have hW5 := hW.m hg hp
  refine G_aload_n (pc := 0) 0 0 dX6_nack_0 rfl rfl ?_
  refine G_iload_n (pc := 1) 1 1 dX6_nack_1 rfl rfl ?_
  refine G_iload_n (pc := 2) 2 2 dX6_nack_2 rfl rfl ?_
  refine G_callVd (pc := 3) gk_X6_217 dX6_nack_3 mg_0 rfl (c_X6_progressAt (by first | assumption | omega | exact ⟨by omega, by omega⟩ | exact hS _ _ | exact hT _ _) (by first | assumption | omega | exact ⟨by omega, by omega⟩ | exact hS _ _ | exact hT _ _) (by first | assumption | omega | exact ⟨by omega, by omega⟩ | exact hS _ _ | exact hT _ _)) rfl rfl (Nat.le_of_ble_eq_true rfl) ⟨⟨Nat.le_of_ble_eq_true rfl, Nat.le_of_ble_eq_true rfl⟩, Nat.le_of_ble_eq_true rfl, Nat.le_of_ble_eq_true rfl⟩ ?_
  refine G_astore (pc := 6) [(4, .ref (ad (18, g, p, 0))), (0, .ref (ad (0, 0, 0, 0))), (1, .int (zI g)), (2, .int (zI p)), (3, .int (zI o))] dX6_nack_6 (by decide) rfl ?_
  refine G_aload (pc := 8) 0 dX6_nack_8 rfl ?_
  refine G_iload_n (pc := 10) 3 4 dX6_nack_10 rfl rfl ?_
  exact G_callSt (pc := 11) gk_X6_221 dX6_nack_11 (c_X6_refuseUnlessOut_x (by first | assumption | omega | exact ⟨by omega, by omega⟩ | exact hS _ _ | exact hT _ _) (by first | assumption | omega | exact ⟨by omega, by omega⟩ | exact hS _ _ | exact hT _ _) (by first | assumption | omega | exact ⟨by omega, by omega⟩ | exact hS _ _ | exact hT _ _) (by first | assumption | omega | exact ⟨by omega, by omega⟩ | exact hS _ _ | exact hT _ _) (by first | assumption | omega | exact ⟨by omega, by omega⟩ | exact hS _ _ | exact hT _ _) (by first | assumption | omega | exact ⟨by omega, by omega⟩ | exact hS _ _ | exact hT _ _) hst) rfl rfl (Nat.le_of_ble_eq_true rfl) ⟨⟨Nat.le_of_ble_eq_true rfl, Nat.le_of_ble_eq_true rfl⟩, Nat.le_of_ble_eq_true rfl, Nat.le_of_ble_eq_true rfl⟩ hX ⟨Nat.le_of_ble_eq_true rfl, Nat.le_of_ble_eq_true rfl⟩ ⟨rfl, rfl, rfl⟩
set_option maxHeartbeats 4000000 in
set_option maxRecDepth 100000 in
theorem c_X6_seek {l : Launch} {Δ : zDl} {ad : zK → Nat} {P : zP} {S : zS} {X : zMem} {g p o : Int} (hP : zWP P) (hg : 0 ≤ g ∧ g < P 3 0 0) (hp : 0 ≤ p ∧ p < P 1 (P 4 g 0) 0) (hW : zWS P S) (ho : S (11, P 4 g 0, p, 0) 1 ≤ o ∧ o ≤ P 2 (P 4 g 0) p) : zMn l Δ yX6_seek cX6_seek 6 (some .int) 9 0 0 [.ref (ad (0, 0, 0, 0)), .int (zI g), .int (zI p), .int (zI o)] ad (mm Δ ad P S X) (zD (some (.int (zI (S (18, g, p, 0) 5)))) ad (mm Δ ad P (zku P (zmv P S g p o) g p) X)) := by
  refine zMn_of (by decide) (Nat.le_of_ble_eq_true rfl) (fun Γ hl hΔ hF => ?_)
  subst hl hΔ
  show G Γ _ _ _ RX6 _ _ _ _ _ [(0, .ref (ad (0, 0, 0, 0))), (1, .int (zI g)), (2, .int (zI p)), (3, .int (zI o))] []
  have hS := hW.R
  have hN := hP.n
  have hk := hW.k
  have hl := hW.l
  have hG := hP.g hg
  have hT := hP.t hG
  have hM := hP.m hG hp
  have hW5 := hW.m hg hp
  have hs1 := hW.s hG hp
  have hW1 : zWS P (zmv P S g p o) := zmv_W hP hg hp ⟨by omega, by omega⟩ hW
  refine G_aload_n (pc := 0) 0 0 dX6_seek_0 rfl rfl ?_
  refine G_iload_n (pc := 1) 1 1 dX6_seek_1 rfl rfl ?_
  refine G_iload_n (pc := 2) 2 2 dX6_seek_2 rfl rfl ?_
  refine G_callVd (pc := 3) gk_X6_217 dX6_seek_3 mg_0 rfl (c_X6_progressAt (by first | assumption | omega | exact ⟨by omega, by omega⟩ | exact hS _ _ | exact hT _ _) (by first | assumption | omega | exact ⟨by omega, by omega⟩ | exact hS _ _ | exact hT _ _) (by first | assumption | omega | exact ⟨by omega, by omega⟩ | exact hS _ _ | exact hT _ _)) rfl rfl (Nat.le_of_ble_eq_true rfl) ⟨⟨Nat.le_of_ble_eq_true rfl, Nat.le_of_ble_eq_true rfl⟩, Nat.le_of_ble_eq_true rfl, Nat.le_of_ble_eq_true rfl⟩ ?_
  refine G_astore (pc := 6) [(4, .ref (ad (18, g, p, 0))), (0, .ref (ad (0, 0, 0, 0))), (1, .int (zI g)), (2, .int (zI p)), (3, .int (zI o))] dX6_seek_6 (by decide) rfl ?_
  refine G_iload_n (pc := 8) 3 4 dX6_seek_8 rfl rfl ?_
  refine G_aload (pc := 9) 0 dX6_seek_9 rfl ?_
  refine G_getf (pc := 11) fl_X6_236 dX6_seek_11 (mg_18 (by first | assumption | omega | exact ⟨by omega, by omega⟩ | exact hS _ _ | exact hT _ _)) rfl ?_
  refine G_getf (pc := 14) fl_X6_153 dX6_seek_14 (mg_11 (by first | assumption | omega | exact ⟨by omega, by omega⟩ | exact hS _ _ | exact hT _ _)) rfl ?_
  refine G_aload (pc := 17) 0 dX6_seek_17 rfl ?_
  refine G_getf (pc := 19) fl_X6_236 dX6_seek_19 (mg_18 (by first | assumption | omega | exact ⟨by omega, by omega⟩ | exact hS _ _ | exact hT _ _)) rfl ?_
  refine G_callVd (pc := 22) gk_X6_156 dX6_seek_22 (mg_11 (by first | assumption | omega | exact ⟨by omega, by omega⟩ | exact hS _ _ | exact hT _ _)) rfl (c_X3_size (by first | assumption | omega | exact ⟨by omega, by omega⟩ | exact hS _ _ | exact hT _ _) (by first | assumption | omega | exact ⟨by omega, by omega⟩ | exact hS _ _ | exact hT _ _)) rfl rfl (Nat.le_of_ble_eq_true rfl) ⟨⟨Nat.le_of_ble_eq_true rfl, Nat.le_of_ble_eq_true rfl⟩, Nat.le_of_ble_eq_true rfl, Nat.le_of_ble_eq_true rfl⟩ ?_
  refine G_callSd (pc := 25) gk_X6_46 dX6_seek_25 (c_X6_isWithin (by first | assumption | omega | exact ⟨by omega, by omega⟩ | exact hS _ _ | exact hT _ _) (by first | assumption | omega | exact ⟨by omega, by omega⟩ | exact hS _ _ | exact hT _ _) (by first | assumption | omega | exact ⟨by omega, by omega⟩ | exact hS _ _ | exact hT _ _)) rfl rfl (Nat.le_of_ble_eq_true rfl) ⟨⟨Nat.le_of_ble_eq_true rfl, Nat.le_of_ble_eq_true rfl⟩, Nat.le_of_ble_eq_true rfl, Nat.le_of_ble_eq_true rfl⟩ ?_
  refine G_if_ne_b (pc := 28) 41 dX6_seek_28 (by decide) (fun c28 => ?_) (fun c28 => ?_)
  · refine G_aload (pc := 41) 0 dX6_seek_41 rfl ?_
    refine G_getf (pc := 43) fl_X6_229 dX6_seek_43 (mg_18 (by first | assumption | omega | exact ⟨by omega, by omega⟩ | exact hS _ _ | exact hT _ _)) rfl ?_
    refine G_istore_e (pc := 46) (fun zw => [(5, .int (zI zw)), (4, .ref (ad (18, g, p, 0))), (0, .ref (ad (0, 0, 0, 0))), (1, .int (zI g)), (2, .int (zI p)), (3, .int (zI o))]) dX6_seek_46 (by decide) (fun _ => rfl) (fun v46 e46 => ?_)
    refine G_aload (pc := 48) 1 dX6_seek_48 rfl ?_
    refine G_iload_n (pc := 50) 3 5 dX6_seek_50 rfl rfl ?_
    refine G_callVv (pc := 51) gk_X6_242 dX6_seek_51 (mg_18 (by first | assumption | omega | exact ⟨by omega, by omega⟩ | exact hS _ _ | exact hT _ _)) rfl (c_X4_moveTo (by first | assumption | omega | exact ⟨by omega, by omega⟩ | exact hS _ _ | exact hT _ _) (by first | assumption | omega | exact ⟨by omega, by omega⟩ | exact hS _ _ | exact hT _ _) (by first | assumption | omega | exact ⟨by omega, by omega⟩ | exact hS _ _ | exact hT _ _) (by first | assumption | omega | exact ⟨by omega, by omega⟩ | exact hS _ _ | exact hT _ _) (by first | assumption | omega | exact ⟨by omega, by omega⟩ | exact hS _ _ | exact hT _ _)) rfl rfl (Nat.le_of_ble_eq_true rfl) ⟨⟨Nat.le_of_ble_eq_true rfl, Nat.le_of_ble_eq_true rfl⟩, Nat.le_of_ble_eq_true rfl, Nat.le_of_ble_eq_true rfl⟩ ?_
    refine G_name (fun S1_51 hS1_51 => ?_)
    rw [← hS1_51] at hW1
    refine G_aload (pc := 54) 1 dX6_seek_54 rfl ?_
    refine G_callVv (pc := 56) gk_X6_228 dX6_seek_56 (mg_18 (by first | assumption | omega | exact ⟨by omega, by omega⟩ | exact hS _ _ | exact hT _ _)) rfl (c_X4_keepUp (by first | assumption | omega | exact ⟨by omega, by omega⟩ | exact hS _ _ | exact hT _ _) (by first | assumption | omega | exact ⟨by omega, by omega⟩ | exact hS _ _ | exact hT _ _) (by first | assumption | omega | exact ⟨by omega, by omega⟩ | exact hS _ _ | exact hT _ _) (by first | assumption | omega | exact ⟨by omega, by omega⟩ | exact hS _ _ | exact hT _ _)) rfl rfl (Nat.le_of_ble_eq_true rfl) ⟨⟨Nat.le_of_ble_eq_true rfl, Nat.le_of_ble_eq_true rfl⟩, Nat.le_of_ble_eq_true rfl, Nat.le_of_ble_eq_true rfl⟩ ?_
    refine G_name (fun S2_56 hS2_56 => ?_)
    refine G_iload (pc := 59) 0 dX6_seek_59 rfl ?_
    exact G_iret_m (pc := 61) hF dX6_seek_61 ⟨Nat.le_of_ble_eq_true rfl, Nat.le_of_ble_eq_true rfl⟩ (by first | rfl | omega | simp_all) (by rw [hS2_56, hS1_51])
  · exfalso
    omega
set_option maxHeartbeats 4000000 in
set_option maxRecDepth 100000 in
theorem c_X6_seek_x {l : Launch} {Δ : zDl} {ad : zK → Nat} {P : zP} {S : zS} {X : zMem} {g p o : Int} (hP : zWP P) (hW : zWS P S) (hr : zR g) (hq : zR p) (hn : ¬ ((0 ≤ g ∧ g < P 3 0 0) ∧ (0 ≤ p ∧ p < P 1 (P 4 g 0) 0))) (hst : l.stackTraces = false) : zMx l Δ yX6_seek cX6_seek 6 (some .int) 9 1 6 [.ref (ad (0, 0, 0, 0)), .int (zI g), .int (zI p), .int (zI o)] ad (mm Δ ad P S X) zF0 (zE "java/lang/IndexOutOfBoundsException" ad (mm Δ ad P S X)) := by
  refine zMx_of hst (by decide) (Nat.le_of_ble_eq_true rfl) (fun Γ hl hΔ hF hX => ?_)
  subst hl hΔ
  show G Γ _ _ _ RX6 _ _ _ _ _ [(0, .ref (ad (0, 0, 0, 0))), (1, .int (zI g)), (2, .int (zI p)), (3, .int (zI o))] []
  refine G_aload_n (pc := 0) 0 0 dX6_seek_0 rfl rfl ?_
  refine G_iload_n (pc := 1) 1 1 dX6_seek_1 rfl rfl ?_
  refine G_iload_n (pc := 2) 2 2 dX6_seek_2 rfl rfl ?_
  exact G_callVt (pc := 3) gk_X6_217 dX6_seek_3 mg_0 rfl (c_X6_progressAt_x (by first | assumption | omega | exact ⟨by omega, by omega⟩ | exact hS _ _ | exact hT _ _) (by first | assumption | omega | exact ⟨by omega, by omega⟩ | exact hS _ _ | exact hT _ _) (by first | assumption | omega | exact ⟨by omega, by omega⟩ | exact hS _ _ | exact hT _ _) (by first | assumption | omega | exact ⟨by omega, by omega⟩ | exact hS _ _ | exact hT _ _) hst) rfl rfl (Nat.le_of_ble_eq_true rfl) ⟨⟨Nat.le_of_ble_eq_true rfl, Nat.le_of_ble_eq_true rfl⟩, Nat.le_of_ble_eq_true rfl, Nat.le_of_ble_eq_true rfl⟩ hX ⟨Nat.le_of_ble_eq_true rfl, Nat.le_of_ble_eq_true rfl⟩ ⟨rfl, rfl, rfl⟩
set_option maxHeartbeats 4000000 in
set_option maxRecDepth 100000 in
theorem c_X6_seek_y {l : Launch} {Δ : zDl} {ad : zK → Nat} {P : zP} {S : zS} {X : zMem} {g p o : Int} (hP : zWP P) (hg : 0 ≤ g ∧ g < P 3 0 0) (hp : 0 ≤ p ∧ p < P 1 (P 4 g 0) 0) (hW : zWS P S) (hr : zR o) (hn : ¬ (S (11, P 4 g 0, p, 0) 1 ≤ o ∧ o ≤ P 2 (P 4 g 0) p)) (hst : l.stackTraces = false) : zMx l Δ yX6_seek cX6_seek 6 (some .int) 9 1 6 [.ref (ad (0, 0, 0, 0)), .int (zI g), .int (zI p), .int (zI o)] ad (mm Δ ad P S X) zF0 (zE "java/lang/IllegalArgumentException" ad (mm Δ ad P S X)) := by
  refine zMx_of hst (by decide) (Nat.le_of_ble_eq_true rfl) (fun Γ hl hΔ hF hX => ?_)
  subst hl hΔ
  show G Γ _ _ _ RX6 _ _ _ _ _ [(0, .ref (ad (0, 0, 0, 0))), (1, .int (zI g)), (2, .int (zI p)), (3, .int (zI o))] []
  have hS := hW.R
  have hN := hP.n
  have hk := hW.k
  have hl := hW.l
  have hG := hP.g hg
  have hT := hP.t hG
  have hM := hP.m hG hp
  have hW5 := hW.m hg hp
  have hs1 := hW.s hG hp
  refine G_aload_n (pc := 0) 0 0 dX6_seek_0 rfl rfl ?_
  refine G_iload_n (pc := 1) 1 1 dX6_seek_1 rfl rfl ?_
  refine G_iload_n (pc := 2) 2 2 dX6_seek_2 rfl rfl ?_
  refine G_callVd (pc := 3) gk_X6_217 dX6_seek_3 mg_0 rfl (c_X6_progressAt (by first | assumption | omega | exact ⟨by omega, by omega⟩ | exact hS _ _ | exact hT _ _) (by first | assumption | omega | exact ⟨by omega, by omega⟩ | exact hS _ _ | exact hT _ _) (by first | assumption | omega | exact ⟨by omega, by omega⟩ | exact hS _ _ | exact hT _ _)) rfl rfl (Nat.le_of_ble_eq_true rfl) ⟨⟨Nat.le_of_ble_eq_true rfl, Nat.le_of_ble_eq_true rfl⟩, Nat.le_of_ble_eq_true rfl, Nat.le_of_ble_eq_true rfl⟩ ?_
  refine G_astore (pc := 6) [(4, .ref (ad (18, g, p, 0))), (0, .ref (ad (0, 0, 0, 0))), (1, .int (zI g)), (2, .int (zI p)), (3, .int (zI o))] dX6_seek_6 (by decide) rfl ?_
  refine G_iload_n (pc := 8) 3 4 dX6_seek_8 rfl rfl ?_
  refine G_aload (pc := 9) 0 dX6_seek_9 rfl ?_
  refine G_getf (pc := 11) fl_X6_236 dX6_seek_11 (mg_18 (by first | assumption | omega | exact ⟨by omega, by omega⟩ | exact hS _ _ | exact hT _ _)) rfl ?_
  refine G_getf (pc := 14) fl_X6_153 dX6_seek_14 (mg_11 (by first | assumption | omega | exact ⟨by omega, by omega⟩ | exact hS _ _ | exact hT _ _)) rfl ?_
  refine G_aload (pc := 17) 0 dX6_seek_17 rfl ?_
  refine G_getf (pc := 19) fl_X6_236 dX6_seek_19 (mg_18 (by first | assumption | omega | exact ⟨by omega, by omega⟩ | exact hS _ _ | exact hT _ _)) rfl ?_
  refine G_callVd (pc := 22) gk_X6_156 dX6_seek_22 (mg_11 (by first | assumption | omega | exact ⟨by omega, by omega⟩ | exact hS _ _ | exact hT _ _)) rfl (c_X3_size (by first | assumption | omega | exact ⟨by omega, by omega⟩ | exact hS _ _ | exact hT _ _) (by first | assumption | omega | exact ⟨by omega, by omega⟩ | exact hS _ _ | exact hT _ _)) rfl rfl (Nat.le_of_ble_eq_true rfl) ⟨⟨Nat.le_of_ble_eq_true rfl, Nat.le_of_ble_eq_true rfl⟩, Nat.le_of_ble_eq_true rfl, Nat.le_of_ble_eq_true rfl⟩ ?_
  refine G_callSd (pc := 25) gk_X6_46 dX6_seek_25 (c_X6_isWithin (by first | assumption | omega | exact ⟨by omega, by omega⟩ | exact hS _ _ | exact hT _ _) (by first | assumption | omega | exact ⟨by omega, by omega⟩ | exact hS _ _ | exact hT _ _) (by first | assumption | omega | exact ⟨by omega, by omega⟩ | exact hS _ _ | exact hT _ _)) rfl rfl (Nat.le_of_ble_eq_true rfl) ⟨⟨Nat.le_of_ble_eq_true rfl, Nat.le_of_ble_eq_true rfl⟩, Nat.le_of_ble_eq_true rfl, Nat.le_of_ble_eq_true rfl⟩ ?_
  refine G_if_ne_b (pc := 28) 41 dX6_seek_28 (by decide) (fun c28 => ?_) (fun c28 => ?_)
  · exfalso
    omega
  · exact G_throw (text := "the offset is not from the start to the end") hX tw_54 rfl (by decide) dX6_seek_31 dX6_seek_34 dX6_seek_35 dX6_seek_37 dX6_seek_40 ⟨⟨Nat.le_of_ble_eq_true rfl, Nat.le_of_ble_eq_true rfl⟩, Nat.le_of_ble_eq_true rfl, Nat.le_of_ble_eq_true rfl⟩ ⟨Nat.le_of_ble_eq_true rfl, Nat.le_of_ble_eq_true rfl⟩ ⟨rfl, rfl, rfl⟩
set_option maxHeartbeats 4000000 in
set_option maxRecDepth 100000 in
theorem c_X6_send_xa {l : Launch} {Δ : zDl} {ad : zK → Nat} {P : zP} {S : zS} {X : zMem} {t x n k v : Int} (hP : zWP P) (hW : zWS P S) (hr : zR t) (hn : ¬ (0 ≤ t ∧ t < P 0 0 0)) (hst : l.stackTraces = false) : zMx l Δ yX6_send cX6_send 9 (some .int) 9 1 6 [.ref (ad (0, 0, 0, 0)), .int (zI t), .int (zI x), .int (zI n), .int (zI k), .int (zI v)] ad (mm Δ ad P S X) zF0 (zE "java/lang/IndexOutOfBoundsException" ad (mm Δ ad P S X)) := by
  refine zMx_of hst (by decide) (Nat.le_of_ble_eq_true rfl) (fun Γ hl hΔ hF hX => ?_)
  subst hl hΔ
  show G Γ _ _ _ RX6 _ _ _ _ _ [(0, .ref (ad (0, 0, 0, 0))), (1, .int (zI t)), (2, .int (zI x)), (3, .int (zI n)), (4, .int (zI k)), (5, .int (zI v))] []
  refine G_aload_n (pc := 0) 0 0 dX6_send_0 rfl rfl ?_
  refine G_iload_n (pc := 1) 1 1 dX6_send_1 rfl rfl ?_
  exact G_callVt (pc := 2) gk_X6_75 dX6_send_2 mg_0 rfl (c_X6_topicAt_x (by first | assumption | omega | exact ⟨by omega, by omega⟩ | exact hS _ _ | exact hT _ _) (by first | assumption | omega | exact ⟨by omega, by omega⟩ | exact hS _ _ | exact hT _ _) (by first | assumption | omega | exact ⟨by omega, by omega⟩ | exact hS _ _ | exact hT _ _) hst) rfl rfl (Nat.le_of_ble_eq_true rfl) ⟨⟨Nat.le_of_ble_eq_true rfl, Nat.le_of_ble_eq_true rfl⟩, Nat.le_of_ble_eq_true rfl, Nat.le_of_ble_eq_true rfl⟩ hX ⟨Nat.le_of_ble_eq_true rfl, Nat.le_of_ble_eq_true rfl⟩ ⟨rfl, rfl, rfl⟩
set_option maxHeartbeats 4000000 in
set_option maxRecDepth 100000 in
theorem c_X6_send_xb {l : Launch} {Δ : zDl} {ad : zK → Nat} {P : zP} {S : zS} {X : zMem} {t x n k v : Int} (hP : zWP P) (ht : 0 ≤ t ∧ t < P 0 0 0) (hW : zWS P S) (hr : zR x) (hn : ¬ (0 ≤ x ∧ x < 4)) (hst : l.stackTraces = false) : zMx l Δ yX6_send cX6_send 9 (some .int) 9 1 6 [.ref (ad (0, 0, 0, 0)), .int (zI t), .int (zI x), .int (zI n), .int (zI k), .int (zI v)] ad (mm Δ ad P S X) zF0 (zE "java/lang/IndexOutOfBoundsException" ad (mm Δ ad P S X)) := by
  refine zMx_of hst (by decide) (Nat.le_of_ble_eq_true rfl) (fun Γ hl hΔ hF hX => ?_)
  subst hl hΔ
  show G Γ _ _ _ RX6 _ _ _ _ _ [(0, .ref (ad (0, 0, 0, 0))), (1, .int (zI t)), (2, .int (zI x)), (3, .int (zI n)), (4, .int (zI k)), (5, .int (zI v))] []
  have hS := hW.R
  have hN := hP.n
  have hk := hW.k
  have hl := hW.l
  have hT := hP.t ht
  refine G_aload_n (pc := 0) 0 0 dX6_send_0 rfl rfl ?_
  refine G_iload_n (pc := 1) 1 1 dX6_send_1 rfl rfl ?_
  refine G_callVd (pc := 2) gk_X6_75 dX6_send_2 mg_0 rfl (c_X6_topicAt (by first | assumption | omega | exact ⟨by omega, by omega⟩ | exact hS _ _ | exact hT _ _) (by first | assumption | omega | exact ⟨by omega, by omega⟩ | exact hS _ _ | exact hT _ _)) rfl rfl (Nat.le_of_ble_eq_true rfl) ⟨⟨Nat.le_of_ble_eq_true rfl, Nat.le_of_ble_eq_true rfl⟩, Nat.le_of_ble_eq_true rfl, Nat.le_of_ble_eq_true rfl⟩ ?_
  refine G_astore (pc := 5) [(6, .ref (ad (8, t, 0, 0))), (0, .ref (ad (0, 0, 0, 0))), (1, .int (zI t)), (2, .int (zI x)), (3, .int (zI n)), (4, .int (zI k)), (5, .int (zI v))] dX6_send_5 (by decide) rfl ?_
  refine G_iload_n (pc := 7) 2 3 dX6_send_7 rfl rfl ?_
  exact G_callSt (pc := 8) gk_X6_79 dX6_send_8 (c_X6_refuseOtherProducers_x (by first | assumption | omega | exact ⟨by omega, by omega⟩ | exact hS _ _ | exact hT _ _) (by first | assumption | omega | exact ⟨by omega, by omega⟩ | exact hS _ _ | exact hT _ _) hst) rfl rfl (Nat.le_of_ble_eq_true rfl) ⟨⟨Nat.le_of_ble_eq_true rfl, Nat.le_of_ble_eq_true rfl⟩, Nat.le_of_ble_eq_true rfl, Nat.le_of_ble_eq_true rfl⟩ hX ⟨Nat.le_of_ble_eq_true rfl, Nat.le_of_ble_eq_true rfl⟩ ⟨rfl, rfl, rfl⟩
set_option maxHeartbeats 4000000 in
set_option maxRecDepth 100000 in
theorem c_X6_send_x {l : Launch} {Δ : zDl} {ad : zK → Nat} {P : zP} {S : zS} {X : zMem} {t x n k v : Int} (hP : zWP P) (hW : zWS P S) (hr : zR t) (hq : zR x) (hn : ¬ ((0 ≤ t ∧ t < P 0 0 0) ∧ (0 ≤ x ∧ x < 4))) (hst : l.stackTraces = false) : zMx l Δ yX6_send cX6_send 9 (some .int) 9 1 6 [.ref (ad (0, 0, 0, 0)), .int (zI t), .int (zI x), .int (zI n), .int (zI k), .int (zI v)] ad (mm Δ ad P S X) zF0 (zE "java/lang/IndexOutOfBoundsException" ad (mm Δ ad P S X)) := by
  by_cases ht : 0 ≤ t ∧ t < P 0 0 0
  · exact c_X6_send_xb hP ht hW hq (fun q => hn ⟨ht, q⟩) hst
  · exact c_X6_send_xa hP hW hr ht hst
set_option maxHeartbeats 4000000 in
set_option maxRecDepth 100000 in
theorem c_X6_send_y {l : Launch} {Δ : zDl} {ad : zK → Nat} {P : zP} {S : zS} {X : zMem} {t x n k v : Int} (hP : zWP P) (ht : 0 ≤ t ∧ t < P 0 0 0) (hW : zWS P S) (hx : 0 ≤ x ∧ x < 4) (hrn : zR n) (hrk : zR k) (hrv : zR v) (hn : ¬ (0 ≤ n ∧ (-1 ≤ k ∧ k ≤ 9) ∧ (0 ≤ v ∧ v ≤ 999))) (hst : l.stackTraces = false) : zMx l Δ yX6_send cX6_send 9 (some .int) 9 1 6 [.ref (ad (0, 0, 0, 0)), .int (zI t), .int (zI x), .int (zI n), .int (zI k), .int (zI v)] ad (mm Δ ad P S X) zF0 (zE "java/lang/IllegalArgumentException" ad (mm Δ ad P S X)) := by
  refine zMx_of hst (by decide) (Nat.le_of_ble_eq_true rfl) (fun Γ hl hΔ hF hX => ?_)
  subst hl hΔ
  show G Γ _ _ _ RX6 _ _ _ _ _ [(0, .ref (ad (0, 0, 0, 0))), (1, .int (zI t)), (2, .int (zI x)), (3, .int (zI n)), (4, .int (zI k)), (5, .int (zI v))] []
  have hS := hW.R
  have hN := hP.n
  have hk := hW.k
  have hl := hW.l
  have hT := hP.t ht
  refine G_aload_n (pc := 0) 0 0 dX6_send_0 rfl rfl ?_
  refine G_iload_n (pc := 1) 1 1 dX6_send_1 rfl rfl ?_
  refine G_callVd (pc := 2) gk_X6_75 dX6_send_2 mg_0 rfl (c_X6_topicAt (by first | assumption | omega | exact ⟨by omega, by omega⟩ | exact hS _ _ | exact hT _ _) (by first | assumption | omega | exact ⟨by omega, by omega⟩ | exact hS _ _ | exact hT _ _)) rfl rfl (Nat.le_of_ble_eq_true rfl) ⟨⟨Nat.le_of_ble_eq_true rfl, Nat.le_of_ble_eq_true rfl⟩, Nat.le_of_ble_eq_true rfl, Nat.le_of_ble_eq_true rfl⟩ ?_
  refine G_astore (pc := 5) [(6, .ref (ad (8, t, 0, 0))), (0, .ref (ad (0, 0, 0, 0))), (1, .int (zI t)), (2, .int (zI x)), (3, .int (zI n)), (4, .int (zI k)), (5, .int (zI v))] dX6_send_5 (by decide) rfl ?_
  refine G_iload_n (pc := 7) 2 3 dX6_send_7 rfl rfl ?_
  refine G_callSv (pc := 8) gk_X6_79 dX6_send_8 (c_X6_refuseOtherProducers (by first | assumption | omega | exact ⟨by omega, by omega⟩ | exact hS _ _ | exact hT _ _)) rfl rfl (Nat.le_of_ble_eq_true rfl) ⟨⟨Nat.le_of_ble_eq_true rfl, Nat.le_of_ble_eq_true rfl⟩, Nat.le_of_ble_eq_true rfl, Nat.le_of_ble_eq_true rfl⟩ ?_
  refine G_iload_n (pc := 11) 3 4 dX6_send_11 rfl rfl ?_
  refine G_if_lt (pc := 12) 38 dX6_send_12 (by decide) (by first | exact hS _ _ | exact hT _ _ | exact ⟨by omega, by omega⟩ | assumption) (fun c12 => ?_) (fun c12 => ?_)
  · exact G_throw (text := "a number, a key or a value is out of its range") hX tw_54 rfl (by decide) dX6_send_38 dX6_send_41 dX6_send_42 dX6_send_44 dX6_send_47 ⟨⟨Nat.le_of_ble_eq_true rfl, Nat.le_of_ble_eq_true rfl⟩, Nat.le_of_ble_eq_true rfl, Nat.le_of_ble_eq_true rfl⟩ ⟨Nat.le_of_ble_eq_true rfl, Nat.le_of_ble_eq_true rfl⟩ ⟨rfl, rfl, rfl⟩
  · refine G_iload (pc := 15) 5 dX6_send_15 rfl ?_
    refine G_iconst (pc := 17) dX6_send_17 ?_
    refine G_bipush (pc := 18) dX6_send_18 (by decide) ?_
    refine G_callSd (pc := 20) gk_X6_46 dX6_send_20 (c_X6_isWithin (by first | assumption | omega | exact ⟨by omega, by omega⟩ | exact hS _ _ | exact hT _ _) (by first | assumption | omega | exact ⟨by omega, by omega⟩ | exact hS _ _ | exact hT _ _) (by first | assumption | omega | exact ⟨by omega, by omega⟩ | exact hS _ _ | exact hT _ _)) rfl rfl (Nat.le_of_ble_eq_true rfl) ⟨⟨Nat.le_of_ble_eq_true rfl, Nat.le_of_ble_eq_true rfl⟩, Nat.le_of_ble_eq_true rfl, Nat.le_of_ble_eq_true rfl⟩ ?_
    refine G_if_eq_b (pc := 23) 38 dX6_send_23 (by decide) (fun c23 => ?_) (fun c23 => ?_)
    · exact G_throw (text := "a number, a key or a value is out of its range") hX tw_54 rfl (by decide) dX6_send_38 dX6_send_41 dX6_send_42 dX6_send_44 dX6_send_47 ⟨⟨Nat.le_of_ble_eq_true rfl, Nat.le_of_ble_eq_true rfl⟩, Nat.le_of_ble_eq_true rfl, Nat.le_of_ble_eq_true rfl⟩ ⟨Nat.le_of_ble_eq_true rfl, Nat.le_of_ble_eq_true rfl⟩ ⟨rfl, rfl, rfl⟩
    · refine G_iload (pc := 26) 6 dX6_send_26 rfl ?_
      refine G_iconst (pc := 28) dX6_send_28 ?_
      refine G_sipush (pc := 29) dX6_send_29 (by decide) ?_
      refine G_callSd (pc := 32) gk_X6_46 dX6_send_32 (c_X6_isWithin (by first | assumption | omega | exact ⟨by omega, by omega⟩ | exact hS _ _ | exact hT _ _) (by first | assumption | omega | exact ⟨by omega, by omega⟩ | exact hS _ _ | exact hT _ _) (by first | assumption | omega | exact ⟨by omega, by omega⟩ | exact hS _ _ | exact hT _ _)) rfl rfl (Nat.le_of_ble_eq_true rfl) ⟨⟨Nat.le_of_ble_eq_true rfl, Nat.le_of_ble_eq_true rfl⟩, Nat.le_of_ble_eq_true rfl, Nat.le_of_ble_eq_true rfl⟩ ?_
      refine G_if_ne_b (pc := 35) 48 dX6_send_35 (by decide) (fun c35 => ?_) (fun c35 => ?_)
      · exfalso
        omega
      · exact G_throw (text := "a number, a key or a value is out of its range") hX tw_54 rfl (by decide) dX6_send_38 dX6_send_41 dX6_send_42 dX6_send_44 dX6_send_47 ⟨⟨Nat.le_of_ble_eq_true rfl, Nat.le_of_ble_eq_true rfl⟩, Nat.le_of_ble_eq_true rfl, Nat.le_of_ble_eq_true rfl⟩ ⟨Nat.le_of_ble_eq_true rfl, Nat.le_of_ble_eq_true rfl⟩ ⟨rfl, rfl, rfl⟩
set_option maxHeartbeats 4000000 in
set_option maxRecDepth 100000 in
theorem c_X6_send_za {l : Launch} {Δ : zDl} {ad : zK → Nat} {P : zP} {S : zS} {X : zMem} {t x n k v : Int} (hP : zWP P) (ht : 0 ≤ t ∧ t < P 0 0 0) (hW : zWS P S) (hx : 0 ≤ x ∧ x < 4) (hrn : zR n) (hrk : zR k) (hrv : zR v) (ha : 0 ≤ n ∧ (-1 ≤ k ∧ k ≤ 9) ∧ (0 ≤ v ∧ v ≤ 999)) (hn : S (10, t, 0, 0) x < n) (hst : l.stackTraces = false) : zMx l Δ yX6_send cX6_send 9 (some .int) 9 1 6 [.ref (ad (0, 0, 0, 0)), .int (zI t), .int (zI x), .int (zI n), .int (zI k), .int (zI v)] ad (mm Δ ad P S X) zF0 (zE "java/lang/IllegalStateException" ad (mm Δ ad P S X)) := by
  refine zMx_of hst (by decide) (Nat.le_of_ble_eq_true rfl) (fun Γ hl hΔ hF hX => ?_)
  subst hl hΔ
  show G Γ _ _ _ RX6 _ _ _ _ _ [(0, .ref (ad (0, 0, 0, 0))), (1, .int (zI t)), (2, .int (zI x)), (3, .int (zI n)), (4, .int (zI k)), (5, .int (zI v))] []
  have hS := hW.R
  have hN := hP.n
  have hk := hW.k
  have hl := hW.l
  have hT := hP.t ht
  refine G_aload_n (pc := 0) 0 0 dX6_send_0 rfl rfl ?_
  refine G_iload_n (pc := 1) 1 1 dX6_send_1 rfl rfl ?_
  refine G_callVd (pc := 2) gk_X6_75 dX6_send_2 mg_0 rfl (c_X6_topicAt (by first | assumption | omega | exact ⟨by omega, by omega⟩ | exact hS _ _ | exact hT _ _) (by first | assumption | omega | exact ⟨by omega, by omega⟩ | exact hS _ _ | exact hT _ _)) rfl rfl (Nat.le_of_ble_eq_true rfl) ⟨⟨Nat.le_of_ble_eq_true rfl, Nat.le_of_ble_eq_true rfl⟩, Nat.le_of_ble_eq_true rfl, Nat.le_of_ble_eq_true rfl⟩ ?_
  refine G_astore (pc := 5) [(6, .ref (ad (8, t, 0, 0))), (0, .ref (ad (0, 0, 0, 0))), (1, .int (zI t)), (2, .int (zI x)), (3, .int (zI n)), (4, .int (zI k)), (5, .int (zI v))] dX6_send_5 (by decide) rfl ?_
  refine G_iload_n (pc := 7) 2 3 dX6_send_7 rfl rfl ?_
  refine G_callSv (pc := 8) gk_X6_79 dX6_send_8 (c_X6_refuseOtherProducers (by first | assumption | omega | exact ⟨by omega, by omega⟩ | exact hS _ _ | exact hT _ _)) rfl rfl (Nat.le_of_ble_eq_true rfl) ⟨⟨Nat.le_of_ble_eq_true rfl, Nat.le_of_ble_eq_true rfl⟩, Nat.le_of_ble_eq_true rfl, Nat.le_of_ble_eq_true rfl⟩ ?_
  refine G_iload_n (pc := 11) 3 4 dX6_send_11 rfl rfl ?_
  refine G_if_lt (pc := 12) 38 dX6_send_12 (by decide) (by first | exact hS _ _ | exact hT _ _ | exact ⟨by omega, by omega⟩ | assumption) (fun c12 => ?_) (fun c12 => ?_)
  · exfalso
    omega
  · refine G_iload (pc := 15) 5 dX6_send_15 rfl ?_
    refine G_iconst (pc := 17) dX6_send_17 ?_
    refine G_bipush (pc := 18) dX6_send_18 (by decide) ?_
    refine G_callSd (pc := 20) gk_X6_46 dX6_send_20 (c_X6_isWithin (by first | assumption | omega | exact ⟨by omega, by omega⟩ | exact hS _ _ | exact hT _ _) (by first | assumption | omega | exact ⟨by omega, by omega⟩ | exact hS _ _ | exact hT _ _) (by first | assumption | omega | exact ⟨by omega, by omega⟩ | exact hS _ _ | exact hT _ _)) rfl rfl (Nat.le_of_ble_eq_true rfl) ⟨⟨Nat.le_of_ble_eq_true rfl, Nat.le_of_ble_eq_true rfl⟩, Nat.le_of_ble_eq_true rfl, Nat.le_of_ble_eq_true rfl⟩ ?_
    refine G_if_eq_b (pc := 23) 38 dX6_send_23 (by decide) (fun c23 => ?_) (fun c23 => ?_)
    · exfalso
      omega
    · refine G_iload (pc := 26) 6 dX6_send_26 rfl ?_
      refine G_iconst (pc := 28) dX6_send_28 ?_
      refine G_sipush (pc := 29) dX6_send_29 (by decide) ?_
      refine G_callSd (pc := 32) gk_X6_46 dX6_send_32 (c_X6_isWithin (by first | assumption | omega | exact ⟨by omega, by omega⟩ | exact hS _ _ | exact hT _ _) (by first | assumption | omega | exact ⟨by omega, by omega⟩ | exact hS _ _ | exact hT _ _) (by first | assumption | omega | exact ⟨by omega, by omega⟩ | exact hS _ _ | exact hT _ _)) rfl rfl (Nat.le_of_ble_eq_true rfl) ⟨⟨Nat.le_of_ble_eq_true rfl, Nat.le_of_ble_eq_true rfl⟩, Nat.le_of_ble_eq_true rfl, Nat.le_of_ble_eq_true rfl⟩ ?_
      refine G_if_ne_b (pc := 35) 48 dX6_send_35 (by decide) (fun c35 => ?_) (fun c35 => ?_)
      · refine G_aload (pc := 48) 0 dX6_send_48 rfl ?_
        refine G_getf (pc := 50) fl_X6_85 dX6_send_50 (mg_8 (by first | assumption | omega | exact ⟨by omega, by omega⟩ | exact hS _ _ | exact hT _ _)) rfl ?_
        refine G_iload_n (pc := 53) 2 3 dX6_send_53 rfl rfl ?_
        refine G_iald (pc := 54) dX6_send_54 (mg_10 (by first | assumption | omega | exact ⟨by omega, by omega⟩ | exact hS _ _ | exact hT _ _)) ⟨by omega, by omega, by omega, by omega⟩ ?_
        refine G_istore_e (pc := 55) (fun zw => [(7, .int (zI zw)), (6, .ref (ad (8, t, 0, 0))), (0, .ref (ad (0, 0, 0, 0))), (1, .int (zI t)), (2, .int (zI x)), (3, .int (zI n)), (4, .int (zI k)), (5, .int (zI v))]) dX6_send_55 (by decide) (fun _ => rfl) (fun v55 e55 => ?_)
        have h55 : zR v55 := by rw [e55]; exact hS _ _
        refine G_iload_n (pc := 57) 3 5 dX6_send_57 rfl rfl ?_
        refine G_iload (pc := 58) 0 dX6_send_58 rfl ?_
        refine G_icmp_le (pc := 60) 73 dX6_send_60 (by decide) (by first | exact hS _ _ | exact hT _ _ | exact ⟨by omega, by omega⟩ | assumption) (by first | exact hS _ _ | exact hT _ _ | exact ⟨by omega, by omega⟩ | assumption) (fun c60 => ?_) (fun c60 => ?_)
        · exfalso
          omega
        · exact G_throw (text := "a number was left out") hX tw_65 rfl (by decide) dX6_send_63 dX6_send_66 dX6_send_67 dX6_send_69 dX6_send_72 ⟨⟨Nat.le_of_ble_eq_true rfl, Nat.le_of_ble_eq_true rfl⟩, Nat.le_of_ble_eq_true rfl, Nat.le_of_ble_eq_true rfl⟩ ⟨Nat.le_of_ble_eq_true rfl, Nat.le_of_ble_eq_true rfl⟩ ⟨rfl, rfl, rfl⟩
      · exfalso
        omega
set_option maxHeartbeats 4000000 in
set_option maxRecDepth 100000 in
theorem c_X6_send_zb {l : Launch} {Δ : zDl} {ad : zK → Nat} {P : zP} {S : zS} {X : zMem} {t x n k v : Int} (hP : zWP P) (ht : 0 ≤ t ∧ t < P 0 0 0) (hW : zWS P S) (hx : 0 ≤ x ∧ x < 4) (hrn : zR n) (hrk : zR k) (hrv : zR v) (ha : 0 ≤ n ∧ (-1 ≤ k ∧ k ≤ 9) ∧ (0 ≤ v ∧ v ≤ 999)) (hn : S (10, t, 0, 0) x = n) (hn2 : 80 ≤ S (0, 0, 0, 0) 5) (hst : l.stackTraces = false) : zMx l Δ yX6_send cX6_send 9 (some .int) 9 1 6 [.ref (ad (0, 0, 0, 0)), .int (zI t), .int (zI x), .int (zI n), .int (zI k), .int (zI v)] ad (mm Δ ad P S X) zF0 (zE "java/lang/IllegalStateException" ad (mm Δ ad P S X)) := by
  refine zMx_of hst (by decide) (Nat.le_of_ble_eq_true rfl) (fun Γ hl hΔ hF hX => ?_)
  subst hl hΔ
  show G Γ _ _ _ RX6 _ _ _ _ _ [(0, .ref (ad (0, 0, 0, 0))), (1, .int (zI t)), (2, .int (zI x)), (3, .int (zI n)), (4, .int (zI k)), (5, .int (zI v))] []
  have hS := hW.R
  have hN := hP.n
  have hk := hW.k
  have hl := hW.l
  have hT := hP.t ht
  refine G_aload_n (pc := 0) 0 0 dX6_send_0 rfl rfl ?_
  refine G_iload_n (pc := 1) 1 1 dX6_send_1 rfl rfl ?_
  refine G_callVd (pc := 2) gk_X6_75 dX6_send_2 mg_0 rfl (c_X6_topicAt (by first | assumption | omega | exact ⟨by omega, by omega⟩ | exact hS _ _ | exact hT _ _) (by first | assumption | omega | exact ⟨by omega, by omega⟩ | exact hS _ _ | exact hT _ _)) rfl rfl (Nat.le_of_ble_eq_true rfl) ⟨⟨Nat.le_of_ble_eq_true rfl, Nat.le_of_ble_eq_true rfl⟩, Nat.le_of_ble_eq_true rfl, Nat.le_of_ble_eq_true rfl⟩ ?_
  refine G_astore (pc := 5) [(6, .ref (ad (8, t, 0, 0))), (0, .ref (ad (0, 0, 0, 0))), (1, .int (zI t)), (2, .int (zI x)), (3, .int (zI n)), (4, .int (zI k)), (5, .int (zI v))] dX6_send_5 (by decide) rfl ?_
  refine G_iload_n (pc := 7) 2 3 dX6_send_7 rfl rfl ?_
  refine G_callSv (pc := 8) gk_X6_79 dX6_send_8 (c_X6_refuseOtherProducers (by first | assumption | omega | exact ⟨by omega, by omega⟩ | exact hS _ _ | exact hT _ _)) rfl rfl (Nat.le_of_ble_eq_true rfl) ⟨⟨Nat.le_of_ble_eq_true rfl, Nat.le_of_ble_eq_true rfl⟩, Nat.le_of_ble_eq_true rfl, Nat.le_of_ble_eq_true rfl⟩ ?_
  refine G_iload_n (pc := 11) 3 4 dX6_send_11 rfl rfl ?_
  refine G_if_lt (pc := 12) 38 dX6_send_12 (by decide) (by first | exact hS _ _ | exact hT _ _ | exact ⟨by omega, by omega⟩ | assumption) (fun c12 => ?_) (fun c12 => ?_)
  · exfalso
    omega
  · refine G_iload (pc := 15) 5 dX6_send_15 rfl ?_
    refine G_iconst (pc := 17) dX6_send_17 ?_
    refine G_bipush (pc := 18) dX6_send_18 (by decide) ?_
    refine G_callSd (pc := 20) gk_X6_46 dX6_send_20 (c_X6_isWithin (by first | assumption | omega | exact ⟨by omega, by omega⟩ | exact hS _ _ | exact hT _ _) (by first | assumption | omega | exact ⟨by omega, by omega⟩ | exact hS _ _ | exact hT _ _) (by first | assumption | omega | exact ⟨by omega, by omega⟩ | exact hS _ _ | exact hT _ _)) rfl rfl (Nat.le_of_ble_eq_true rfl) ⟨⟨Nat.le_of_ble_eq_true rfl, Nat.le_of_ble_eq_true rfl⟩, Nat.le_of_ble_eq_true rfl, Nat.le_of_ble_eq_true rfl⟩ ?_
    refine G_if_eq_b (pc := 23) 38 dX6_send_23 (by decide) (fun c23 => ?_) (fun c23 => ?_)
    · exfalso
      omega
    · refine G_iload (pc := 26) 6 dX6_send_26 rfl ?_
      refine G_iconst (pc := 28) dX6_send_28 ?_
      refine G_sipush (pc := 29) dX6_send_29 (by decide) ?_
      refine G_callSd (pc := 32) gk_X6_46 dX6_send_32 (c_X6_isWithin (by first | assumption | omega | exact ⟨by omega, by omega⟩ | exact hS _ _ | exact hT _ _) (by first | assumption | omega | exact ⟨by omega, by omega⟩ | exact hS _ _ | exact hT _ _) (by first | assumption | omega | exact ⟨by omega, by omega⟩ | exact hS _ _ | exact hT _ _)) rfl rfl (Nat.le_of_ble_eq_true rfl) ⟨⟨Nat.le_of_ble_eq_true rfl, Nat.le_of_ble_eq_true rfl⟩, Nat.le_of_ble_eq_true rfl, Nat.le_of_ble_eq_true rfl⟩ ?_
      refine G_if_ne_b (pc := 35) 48 dX6_send_35 (by decide) (fun c35 => ?_) (fun c35 => ?_)
      · refine G_aload (pc := 48) 0 dX6_send_48 rfl ?_
        refine G_getf (pc := 50) fl_X6_85 dX6_send_50 (mg_8 (by first | assumption | omega | exact ⟨by omega, by omega⟩ | exact hS _ _ | exact hT _ _)) rfl ?_
        refine G_iload_n (pc := 53) 2 3 dX6_send_53 rfl rfl ?_
        refine G_iald (pc := 54) dX6_send_54 (mg_10 (by first | assumption | omega | exact ⟨by omega, by omega⟩ | exact hS _ _ | exact hT _ _)) ⟨by omega, by omega, by omega, by omega⟩ ?_
        refine G_istore_e (pc := 55) (fun zw => [(7, .int (zI zw)), (6, .ref (ad (8, t, 0, 0))), (0, .ref (ad (0, 0, 0, 0))), (1, .int (zI t)), (2, .int (zI x)), (3, .int (zI n)), (4, .int (zI k)), (5, .int (zI v))]) dX6_send_55 (by decide) (fun _ => rfl) (fun v55 e55 => ?_)
        have h55 : zR v55 := by rw [e55]; exact hS _ _
        refine G_iload_n (pc := 57) 3 5 dX6_send_57 rfl rfl ?_
        refine G_iload (pc := 58) 0 dX6_send_58 rfl ?_
        refine G_icmp_le (pc := 60) 73 dX6_send_60 (by decide) (by first | exact hS _ _ | exact hT _ _ | exact ⟨by omega, by omega⟩ | assumption) (by first | exact hS _ _ | exact hT _ _ | exact ⟨by omega, by omega⟩ | assumption) (fun c60 => ?_) (fun c60 => ?_)
        · refine G_iload_n (pc := 73) 3 5 dX6_send_73 rfl rfl ?_
          refine G_iload (pc := 74) 0 dX6_send_74 rfl ?_
          refine G_icmp_ge (pc := 76) 82 dX6_send_76 (by decide) (by first | exact hS _ _ | exact hT _ _ | exact ⟨by omega, by omega⟩ | assumption) (by first | exact hS _ _ | exact hT _ _ | exact ⟨by omega, by omega⟩ | assumption) (fun c76 => ?_) (fun c76 => ?_)
          · refine G_aload_n (pc := 82) 0 2 dX6_send_82 rfl rfl ?_
            refine G_getf (pc := 83) fl_X6_34 dX6_send_83 mg_0 rfl ?_
            refine G_bipush (pc := 86) dX6_send_86 (by decide) ?_
            refine G_icmp_lt (pc := 88) 101 dX6_send_88 (by decide) (by first | exact hS _ _ | exact hT _ _ | exact ⟨by omega, by omega⟩ | assumption) (by first | exact hS _ _ | exact hT _ _ | exact ⟨by omega, by omega⟩ | assumption) (fun c88 => ?_) (fun c88 => ?_)
            · exfalso
              omega
            · exact G_throw (text := "there were 80 messages") hX tw_65 rfl (by decide) dX6_send_91 dX6_send_94 dX6_send_95 dX6_send_97 dX6_send_100 ⟨⟨Nat.le_of_ble_eq_true rfl, Nat.le_of_ble_eq_true rfl⟩, Nat.le_of_ble_eq_true rfl, Nat.le_of_ble_eq_true rfl⟩ ⟨Nat.le_of_ble_eq_true rfl, Nat.le_of_ble_eq_true rfl⟩ ⟨rfl, rfl, rfl⟩
          · exfalso
            omega
        · exfalso
          omega
      · exfalso
        omega
set_option maxHeartbeats 4000000 in
set_option maxRecDepth 100000 in
theorem c_X6_send_z {l : Launch} {Δ : zDl} {ad : zK → Nat} {P : zP} {S : zS} {X : zMem} {t x n k v : Int} (hP : zWP P) (ht : 0 ≤ t ∧ t < P 0 0 0) (hW : zWS P S) (hx : 0 ≤ x ∧ x < 4) (hrn : zR n) (hrk : zR k) (hrv : zR v) (ha : 0 ≤ n ∧ (-1 ≤ k ∧ k ≤ 9) ∧ (0 ≤ v ∧ v ≤ 999)) (hn : S (10, t, 0, 0) x < n ∨ S (10, t, 0, 0) x = n ∧ 80 ≤ S (0, 0, 0, 0) 5) (hst : l.stackTraces = false) : zMx l Δ yX6_send cX6_send 9 (some .int) 9 1 6 [.ref (ad (0, 0, 0, 0)), .int (zI t), .int (zI x), .int (zI n), .int (zI k), .int (zI v)] ad (mm Δ ad P S X) zF0 (zE "java/lang/IllegalStateException" ad (mm Δ ad P S X)) := by
  rcases hn with hn | hn
  · exact c_X6_send_za hP ht hW hx hrn hrk hrv ha hn hst
  · exact c_X6_send_zb hP ht hW hx hrn hrk hrv ha hn.1 hn.2 hst
set_option maxHeartbeats 4000000 in
set_option maxRecDepth 100000 in
theorem c_X6_send_d {l : Launch} {Δ : zDl} {ad : zK → Nat} {P : zP} {S : zS} {X : zMem} {t x n k v : Int} (hP : zWP P) (ht : 0 ≤ t ∧ t < P 0 0 0) (hW : zWS P S) (hx : 0 ≤ x ∧ x < 4) (hrn : zR n) (hrk : zR k) (hrv : zR v) (ha : 0 ≤ n ∧ (-1 ≤ k ∧ k ≤ 9) ∧ (0 ≤ v ∧ v ≤ 999)) (hn : n < S (10, t, 0, 0) x) : zMn l Δ yX6_send cX6_send 9 (some .int) 9 0 0 [.ref (ad (0, 0, 0, 0)), .int (zI t), .int (zI x), .int (zI n), .int (zI k), .int (zI v)] ad (mm Δ ad P S X) (zD (some (.int (zI (-2)))) ad (mm Δ ad P S X)) := by
  refine zMn_of (by decide) (Nat.le_of_ble_eq_true rfl) (fun Γ hl hΔ hF => ?_)
  subst hl hΔ
  show G Γ _ _ _ RX6 _ _ _ _ _ [(0, .ref (ad (0, 0, 0, 0))), (1, .int (zI t)), (2, .int (zI x)), (3, .int (zI n)), (4, .int (zI k)), (5, .int (zI v))] []
  have hS := hW.R
  have hN := hP.n
  have hk := hW.k
  have hl := hW.l
  have hT := hP.t ht
  refine G_aload_n (pc := 0) 0 0 dX6_send_0 rfl rfl ?_
  refine G_iload_n (pc := 1) 1 1 dX6_send_1 rfl rfl ?_
  refine G_callVd (pc := 2) gk_X6_75 dX6_send_2 mg_0 rfl (c_X6_topicAt (by first | assumption | omega | exact ⟨by omega, by omega⟩ | exact hS _ _ | exact hT _ _) (by first | assumption | omega | exact ⟨by omega, by omega⟩ | exact hS _ _ | exact hT _ _)) rfl rfl (Nat.le_of_ble_eq_true rfl) ⟨⟨Nat.le_of_ble_eq_true rfl, Nat.le_of_ble_eq_true rfl⟩, Nat.le_of_ble_eq_true rfl, Nat.le_of_ble_eq_true rfl⟩ ?_
  refine G_astore (pc := 5) [(6, .ref (ad (8, t, 0, 0))), (0, .ref (ad (0, 0, 0, 0))), (1, .int (zI t)), (2, .int (zI x)), (3, .int (zI n)), (4, .int (zI k)), (5, .int (zI v))] dX6_send_5 (by decide) rfl ?_
  refine G_iload_n (pc := 7) 2 3 dX6_send_7 rfl rfl ?_
  refine G_callSv (pc := 8) gk_X6_79 dX6_send_8 (c_X6_refuseOtherProducers (by first | assumption | omega | exact ⟨by omega, by omega⟩ | exact hS _ _ | exact hT _ _)) rfl rfl (Nat.le_of_ble_eq_true rfl) ⟨⟨Nat.le_of_ble_eq_true rfl, Nat.le_of_ble_eq_true rfl⟩, Nat.le_of_ble_eq_true rfl, Nat.le_of_ble_eq_true rfl⟩ ?_
  refine G_iload_n (pc := 11) 3 4 dX6_send_11 rfl rfl ?_
  refine G_if_lt (pc := 12) 38 dX6_send_12 (by decide) (by first | exact hS _ _ | exact hT _ _ | exact ⟨by omega, by omega⟩ | assumption) (fun c12 => ?_) (fun c12 => ?_)
  · exfalso
    omega
  · refine G_iload (pc := 15) 5 dX6_send_15 rfl ?_
    refine G_iconst (pc := 17) dX6_send_17 ?_
    refine G_bipush (pc := 18) dX6_send_18 (by decide) ?_
    refine G_callSd (pc := 20) gk_X6_46 dX6_send_20 (c_X6_isWithin (by first | assumption | omega | exact ⟨by omega, by omega⟩ | exact hS _ _ | exact hT _ _) (by first | assumption | omega | exact ⟨by omega, by omega⟩ | exact hS _ _ | exact hT _ _) (by first | assumption | omega | exact ⟨by omega, by omega⟩ | exact hS _ _ | exact hT _ _)) rfl rfl (Nat.le_of_ble_eq_true rfl) ⟨⟨Nat.le_of_ble_eq_true rfl, Nat.le_of_ble_eq_true rfl⟩, Nat.le_of_ble_eq_true rfl, Nat.le_of_ble_eq_true rfl⟩ ?_
    refine G_if_eq_b (pc := 23) 38 dX6_send_23 (by decide) (fun c23 => ?_) (fun c23 => ?_)
    · exfalso
      omega
    · refine G_iload (pc := 26) 6 dX6_send_26 rfl ?_
      refine G_iconst (pc := 28) dX6_send_28 ?_
      refine G_sipush (pc := 29) dX6_send_29 (by decide) ?_
      refine G_callSd (pc := 32) gk_X6_46 dX6_send_32 (c_X6_isWithin (by first | assumption | omega | exact ⟨by omega, by omega⟩ | exact hS _ _ | exact hT _ _) (by first | assumption | omega | exact ⟨by omega, by omega⟩ | exact hS _ _ | exact hT _ _) (by first | assumption | omega | exact ⟨by omega, by omega⟩ | exact hS _ _ | exact hT _ _)) rfl rfl (Nat.le_of_ble_eq_true rfl) ⟨⟨Nat.le_of_ble_eq_true rfl, Nat.le_of_ble_eq_true rfl⟩, Nat.le_of_ble_eq_true rfl, Nat.le_of_ble_eq_true rfl⟩ ?_
      refine G_if_ne_b (pc := 35) 48 dX6_send_35 (by decide) (fun c35 => ?_) (fun c35 => ?_)
      · refine G_aload (pc := 48) 0 dX6_send_48 rfl ?_
        refine G_getf (pc := 50) fl_X6_85 dX6_send_50 (mg_8 (by first | assumption | omega | exact ⟨by omega, by omega⟩ | exact hS _ _ | exact hT _ _)) rfl ?_
        refine G_iload_n (pc := 53) 2 3 dX6_send_53 rfl rfl ?_
        refine G_iald (pc := 54) dX6_send_54 (mg_10 (by first | assumption | omega | exact ⟨by omega, by omega⟩ | exact hS _ _ | exact hT _ _)) ⟨by omega, by omega, by omega, by omega⟩ ?_
        refine G_istore_e (pc := 55) (fun zw => [(7, .int (zI zw)), (6, .ref (ad (8, t, 0, 0))), (0, .ref (ad (0, 0, 0, 0))), (1, .int (zI t)), (2, .int (zI x)), (3, .int (zI n)), (4, .int (zI k)), (5, .int (zI v))]) dX6_send_55 (by decide) (fun _ => rfl) (fun v55 e55 => ?_)
        have h55 : zR v55 := by rw [e55]; exact hS _ _
        refine G_iload_n (pc := 57) 3 5 dX6_send_57 rfl rfl ?_
        refine G_iload (pc := 58) 0 dX6_send_58 rfl ?_
        refine G_icmp_le (pc := 60) 73 dX6_send_60 (by decide) (by first | exact hS _ _ | exact hT _ _ | exact ⟨by omega, by omega⟩ | assumption) (by first | exact hS _ _ | exact hT _ _ | exact ⟨by omega, by omega⟩ | assumption) (fun c60 => ?_) (fun c60 => ?_)
        · refine G_iload_n (pc := 73) 3 5 dX6_send_73 rfl rfl ?_
          refine G_iload (pc := 74) 0 dX6_send_74 rfl ?_
          refine G_icmp_ge (pc := 76) 82 dX6_send_76 (by decide) (by first | exact hS _ _ | exact hT _ _ | exact ⟨by omega, by omega⟩ | assumption) (by first | exact hS _ _ | exact hT _ _ | exact ⟨by omega, by omega⟩ | assumption) (fun c76 => ?_) (fun c76 => ?_)
          · exfalso
            omega
          · refine G_bipush (pc := 79) dX6_send_79 (by decide) ?_
            exact G_iret_d (pc := 81) hF dX6_send_81 ⟨Nat.le_of_ble_eq_true rfl, Nat.le_of_ble_eq_true rfl⟩ (by first | rfl | omega | simp_all)
        · exfalso
          omega
      · exfalso
        omega
set_option maxHeartbeats 4000000 in
set_option maxRecDepth 100000 in
theorem c_X6_topic_y {l : Launch} {Δ : zDl} {ad : zK → Nat} {P : zP} {S : zS} {X : zMem} {n b : Int} (hP : zWP P) (hW : zWS P S) (hr : zR n) (hn : ¬ (1 ≤ n ∧ n ≤ 4)) (hst : l.stackTraces = false) : zMx l Δ yX6_topic cX6_topic 3 (some .int) 9 1 6 [.ref (ad (0, 0, 0, 0)), .int (zI n), .int (zI b)] ad (mm Δ ad P S X) zF0 (zE "java/lang/IllegalArgumentException" ad (mm Δ ad P S X)) := by
  refine zMx_of hst (by decide) (Nat.le_of_ble_eq_true rfl) (fun Γ hl hΔ hF hX => ?_)
  subst hl hΔ
  show G Γ _ _ _ RX6 _ _ _ _ _ [(0, .ref (ad (0, 0, 0, 0))), (1, .int (zI n)), (2, .int (zI b))] []
  have hS := hW.R
  have hN := hP.n
  have hk := hW.k
  have hl := hW.l
  refine G_iload_n (pc := 0) 1 1 dX6_topic_0 rfl rfl ?_
  refine G_iconst (pc := 1) dX6_topic_1 ?_
  refine G_iconst (pc := 2) dX6_topic_2 ?_
  refine G_callSd (pc := 3) gk_X6_46 dX6_topic_3 (c_X6_isWithin (by first | assumption | omega | exact ⟨by omega, by omega⟩ | exact hS _ _ | exact hT _ _) (by first | assumption | omega | exact ⟨by omega, by omega⟩ | exact hS _ _ | exact hT _ _) (by first | assumption | omega | exact ⟨by omega, by omega⟩ | exact hS _ _ | exact hT _ _)) rfl rfl (Nat.le_of_ble_eq_true rfl) ⟨⟨Nat.le_of_ble_eq_true rfl, Nat.le_of_ble_eq_true rfl⟩, Nat.le_of_ble_eq_true rfl, Nat.le_of_ble_eq_true rfl⟩ ?_
  refine G_if_ne_b (pc := 6) 19 dX6_topic_6 (by decide) (fun c6 => ?_) (fun c6 => ?_)
  · exfalso
    omega
  · exact G_throw (text := "a topic has 1 to 4 partitions") hX tw_54 rfl (by decide) dX6_topic_9 dX6_topic_12 dX6_topic_13 dX6_topic_15 dX6_topic_18 ⟨⟨Nat.le_of_ble_eq_true rfl, Nat.le_of_ble_eq_true rfl⟩, Nat.le_of_ble_eq_true rfl, Nat.le_of_ble_eq_true rfl⟩ ⟨Nat.le_of_ble_eq_true rfl, Nat.le_of_ble_eq_true rfl⟩ ⟨rfl, rfl, rfl⟩
set_option maxHeartbeats 4000000 in
set_option maxRecDepth 100000 in
theorem c_X6_topic_z {l : Launch} {Δ : zDl} {ad : zK → Nat} {P : zP} {S : zS} {X : zMem} {n b : Int} (hP : zWP P) (hW : zWS P S) (hr : 1 ≤ n ∧ n ≤ 4) (hn : P 0 0 0 = 4) (hst : l.stackTraces = false) : zMx l Δ yX6_topic cX6_topic 3 (some .int) 9 1 6 [.ref (ad (0, 0, 0, 0)), .int (zI n), .int (zI b)] ad (mm Δ ad P S X) zF0 (zE "java/lang/IllegalStateException" ad (mm Δ ad P S X)) := by
  refine zMx_of hst (by decide) (Nat.le_of_ble_eq_true rfl) (fun Γ hl hΔ hF hX => ?_)
  subst hl hΔ
  show G Γ _ _ _ RX6 _ _ _ _ _ [(0, .ref (ad (0, 0, 0, 0))), (1, .int (zI n)), (2, .int (zI b))] []
  have hS := hW.R
  have hN := hP.n
  have hk := hW.k
  have hl := hW.l
  refine G_iload_n (pc := 0) 1 1 dX6_topic_0 rfl rfl ?_
  refine G_iconst (pc := 1) dX6_topic_1 ?_
  refine G_iconst (pc := 2) dX6_topic_2 ?_
  refine G_callSd (pc := 3) gk_X6_46 dX6_topic_3 (c_X6_isWithin (by first | assumption | omega | exact ⟨by omega, by omega⟩ | exact hS _ _ | exact hT _ _) (by first | assumption | omega | exact ⟨by omega, by omega⟩ | exact hS _ _ | exact hT _ _) (by first | assumption | omega | exact ⟨by omega, by omega⟩ | exact hS _ _ | exact hT _ _)) rfl rfl (Nat.le_of_ble_eq_true rfl) ⟨⟨Nat.le_of_ble_eq_true rfl, Nat.le_of_ble_eq_true rfl⟩, Nat.le_of_ble_eq_true rfl, Nat.le_of_ble_eq_true rfl⟩ ?_
  refine G_if_ne_b (pc := 6) 19 dX6_topic_6 (by decide) (fun c6 => ?_) (fun c6 => ?_)
  · refine G_aload_n (pc := 19) 0 0 dX6_topic_19 rfl rfl ?_
    refine G_getf (pc := 20) fl_X6_10 dX6_topic_20 mg_0 rfl ?_
    refine G_callVd (pc := 23) gk_X6_57 dX6_topic_23 mg_4 rfl (c_AL_size_4 ) rfl rfl (Nat.le_of_ble_eq_true rfl) ⟨⟨Nat.le_of_ble_eq_true rfl, Nat.le_of_ble_eq_true rfl⟩, Nat.le_of_ble_eq_true rfl, Nat.le_of_ble_eq_true rfl⟩ ?_
    refine G_iconst (pc := 26) dX6_topic_26 ?_
    refine G_icmp_lt (pc := 27) 40 dX6_topic_27 (by decide) (by first | exact hS _ _ | exact hT _ _ | exact ⟨by omega, by omega⟩ | assumption) (by first | exact hS _ _ | exact hT _ _ | exact ⟨by omega, by omega⟩ | assumption) (fun c27 => ?_) (fun c27 => ?_)
    · exfalso
      omega
    · exact G_throw (text := "there are 4 topics") hX tw_65 rfl (by decide) dX6_topic_30 dX6_topic_33 dX6_topic_34 dX6_topic_36 dX6_topic_39 ⟨⟨Nat.le_of_ble_eq_true rfl, Nat.le_of_ble_eq_true rfl⟩, Nat.le_of_ble_eq_true rfl, Nat.le_of_ble_eq_true rfl⟩ ⟨Nat.le_of_ble_eq_true rfl, Nat.le_of_ble_eq_true rfl⟩ ⟨rfl, rfl, rfl⟩
  · exfalso
    omega
set_option maxHeartbeats 4000000 in
set_option maxRecDepth 100000 in
theorem c_X6_group_x {l : Launch} {Δ : zDl} {ad : zK → Nat} {P : zP} {S : zS} {X : zMem} {t : Int} (hP : zWP P) (hW : zWS P S) (hr : zR t) (hn : ¬ (0 ≤ t ∧ t < P 0 0 0)) (hst : l.stackTraces = false) : zMx l Δ yX6_group cX6_group 4 (some .int) 9 1 6 [.ref (ad (0, 0, 0, 0)), .int (zI t)] ad (mm Δ ad P S X) zF0 (zE "java/lang/IndexOutOfBoundsException" ad (mm Δ ad P S X)) := by
  refine zMx_of hst (by decide) (Nat.le_of_ble_eq_true rfl) (fun Γ hl hΔ hF hX => ?_)
  subst hl hΔ
  show G Γ _ _ _ RX6 _ _ _ _ _ [(0, .ref (ad (0, 0, 0, 0))), (1, .int (zI t))] []
  refine G_aload_n (pc := 0) 0 0 dX6_group_0 rfl rfl ?_
  refine G_iload_n (pc := 1) 1 1 dX6_group_1 rfl rfl ?_
  exact G_callVt (pc := 2) gk_X6_75 dX6_group_2 mg_0 rfl (c_X6_topicAt_x (by first | assumption | omega | exact ⟨by omega, by omega⟩ | exact hS _ _ | exact hT _ _) (by first | assumption | omega | exact ⟨by omega, by omega⟩ | exact hS _ _ | exact hT _ _) (by first | assumption | omega | exact ⟨by omega, by omega⟩ | exact hS _ _ | exact hT _ _) hst) rfl rfl (Nat.le_of_ble_eq_true rfl) ⟨⟨Nat.le_of_ble_eq_true rfl, Nat.le_of_ble_eq_true rfl⟩, Nat.le_of_ble_eq_true rfl, Nat.le_of_ble_eq_true rfl⟩ hX ⟨Nat.le_of_ble_eq_true rfl, Nat.le_of_ble_eq_true rfl⟩ ⟨rfl, rfl, rfl⟩
set_option maxHeartbeats 4000000 in
set_option maxRecDepth 100000 in
theorem c_X6_group_z {l : Launch} {Δ : zDl} {ad : zK → Nat} {P : zP} {S : zS} {X : zMem} {t : Int} (hP : zWP P) (ht : 0 ≤ t ∧ t < P 0 0 0) (hW : zWS P S) (hn : P 3 0 0 = 4) (hst : l.stackTraces = false) : zMx l Δ yX6_group cX6_group 4 (some .int) 9 1 6 [.ref (ad (0, 0, 0, 0)), .int (zI t)] ad (mm Δ ad P S X) zF0 (zE "java/lang/IllegalStateException" ad (mm Δ ad P S X)) := by
  refine zMx_of hst (by decide) (Nat.le_of_ble_eq_true rfl) (fun Γ hl hΔ hF hX => ?_)
  subst hl hΔ
  show G Γ _ _ _ RX6 _ _ _ _ _ [(0, .ref (ad (0, 0, 0, 0))), (1, .int (zI t))] []
  have hS := hW.R
  have hN := hP.n
  have hk := hW.k
  have hl := hW.l
  have hT := hP.t ht
  refine G_aload_n (pc := 0) 0 0 dX6_group_0 rfl rfl ?_
  refine G_iload_n (pc := 1) 1 1 dX6_group_1 rfl rfl ?_
  refine G_callVd (pc := 2) gk_X6_75 dX6_group_2 mg_0 rfl (c_X6_topicAt (by first | assumption | omega | exact ⟨by omega, by omega⟩ | exact hS _ _ | exact hT _ _) (by first | assumption | omega | exact ⟨by omega, by omega⟩ | exact hS _ _ | exact hT _ _)) rfl rfl (Nat.le_of_ble_eq_true rfl) ⟨⟨Nat.le_of_ble_eq_true rfl, Nat.le_of_ble_eq_true rfl⟩, Nat.le_of_ble_eq_true rfl, Nat.le_of_ble_eq_true rfl⟩ ?_
  refine G_astore_n (pc := 5) 2 [(2, .ref (ad (8, t, 0, 0))), (0, .ref (ad (0, 0, 0, 0))), (1, .int (zI t))] dX6_group_5 rfl (by decide) rfl ?_
  refine G_aload_n (pc := 6) 0 1 dX6_group_6 rfl rfl ?_
  refine G_getf (pc := 7) fl_X6_16 dX6_group_7 mg_0 rfl ?_
  refine G_callVd (pc := 10) gk_X6_57 dX6_group_10 mg_6 rfl (c_AL_size_6 ) rfl rfl (Nat.le_of_ble_eq_true rfl) ⟨⟨Nat.le_of_ble_eq_true rfl, Nat.le_of_ble_eq_true rfl⟩, Nat.le_of_ble_eq_true rfl, Nat.le_of_ble_eq_true rfl⟩ ?_
  refine G_iconst (pc := 13) dX6_group_13 ?_
  refine G_icmp_lt (pc := 14) 27 dX6_group_14 (by decide) (by first | exact hS _ _ | exact hT _ _ | exact ⟨by omega, by omega⟩ | assumption) (by first | exact hS _ _ | exact hT _ _ | exact ⟨by omega, by omega⟩ | assumption) (fun c14 => ?_) (fun c14 => ?_)
  · exfalso
    omega
  · exact G_throw (text := "there are 4 groups") hX tw_65 rfl (by decide) dX6_group_17 dX6_group_20 dX6_group_21 dX6_group_23 dX6_group_26 ⟨⟨Nat.le_of_ble_eq_true rfl, Nat.le_of_ble_eq_true rfl⟩, Nat.le_of_ble_eq_true rfl, Nat.le_of_ble_eq_true rfl⟩ ⟨Nat.le_of_ble_eq_true rfl, Nat.le_of_ble_eq_true rfl⟩ ⟨rfl, rfl, rfl⟩
