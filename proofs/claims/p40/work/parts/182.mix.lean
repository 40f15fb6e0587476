set_option maxHeartbeats 4000000 in
set_option maxRecDepth 100000 in
theorem c_X6_mix {l : Launch} {Δ : zDl} {ad : zK → Nat} {P : zP} {S : zS} {X : zMem} {x y : Int}  : zMn l Δ yX6_mix cX6_mix 4 (some .long) 2 0 0 [.long (zL x), .long (zL y)] ad (mm Δ ad P S X) (zD (some (.long (zL (zmx x y)))) ad (mm Δ ad P S X)) := by
  refine zMn_of (by decide) (Nat.le_of_ble_eq_true rfl) (fun Γ hl hΔ hF => ?_)
  subst hl hΔ
  show G Γ _ _ _ RX6 _ _ _ _ _ [(0, .long (zL x)), (2, .long (zL y))] []
  refine G_lload_n (pc := 0) 0 0 dX6_mix_0 rfl rfl ?_
  refine G_ldc2 (pc := 1) cl_302 dX6_mix_1 ?_
  refine G_lmul (pc := 4) dX6_mix_4 ?_
  refine G_lload_n (pc := 5) 2 1 dX6_mix_5 rfl rfl ?_
  refine G_ladd (pc := 6) dX6_mix_6 ?_
  exact G_lret_d (pc := 7) hF dX6_mix_7 ⟨Nat.le_of_ble_eq_true rfl, Nat.le_of_ble_eq_true rfl⟩ rfl
set_option maxHeartbeats 4000000 in
set_option maxRecDepth 100000 in
theorem c_X6_mixPartition {l : Launch} {Δ : zDl} {ad : zK → Nat} {P : zP} {S : zS} {X : zMem} {t p x : Int} (hP : zWP P) (ht : 0 ≤ t ∧ t < P 0 0 0) (hp : 0 ≤ p ∧ p < P 1 t 0) (hW : zWS P S) : zMn l Δ yX6_mixPartition cX6_mixPartition 7 (some .long) 6 0 0 [.long (zL x), .ref (ad (11, t, p, 0))] ad (mm Δ ad P S X) (zD (some (.long (zL (zxp P S t p x)))) ad (mm Δ ad P S X)) := by
  refine zMn_of (by decide) (Nat.le_of_ble_eq_true rfl) (fun Γ hl hΔ hF => ?_)
  subst hl hΔ
  show G Γ _ _ _ RX6 _ _ _ _ _ [(0, .long (zL x)), (2, .ref (ad (11, t, p, 0)))] []
  have hM := hP.m ht hp
  have hS := hW.R
  have hE := zse_le hP (S := S) ht hp
  refine G_lload_n (pc := 0) 0 0 dX6_mixPartition_0 rfl rfl ?_
  refine G_aload_n (pc := 1) 2 1 dX6_mixPartition_1 rfl rfl ?_
  refine G_getf (pc := 2) fl_X6_153 dX6_mixPartition_2 (mg_11 (by first | assumption | omega | exact ⟨by omega, by omega⟩ | exact hS _ _ | exact hT _ _)) rfl ?_
  refine G_i2l (pc := 5) dX6_mixPartition_5 (by first | exact hS _ _ | exact hT _ _ | exact ⟨by omega, by omega⟩ | assumption | exact ztl_R hS) ?_
  refine G_callSd (pc := 6) gk_X6_290 dX6_mixPartition_6 (c_X6_mix ) rfl rfl (Nat.le_of_ble_eq_true rfl) ⟨⟨Nat.le_of_ble_eq_true rfl, Nat.le_of_ble_eq_true rfl⟩, Nat.le_of_ble_eq_true rfl, Nat.le_of_ble_eq_true rfl⟩ ?_
  refine G_lstore_ne (pc := 9) 3 (fun zw => [(3, .long (zL zw)), (0, .long (zL x)), (2, .ref (ad (11, t, p, 0)))]) dX6_mixPartition_9 rfl (by decide) (fun _ => rfl) (fun v9 e9 => ?_)
  refine G_lload_n (pc := 10) 3 0 dX6_mixPartition_10 rfl rfl ?_
  refine G_aload_n (pc := 11) 2 2 dX6_mixPartition_11 rfl rfl ?_
  refine G_callVd (pc := 12) gk_X6_156 dX6_mixPartition_12 (mg_11 (by first | assumption | omega | exact ⟨by omega, by omega⟩ | exact hS _ _ | exact hT _ _)) rfl (c_X3_size (by first | assumption | omega | exact ⟨by omega, by omega⟩ | exact hS _ _ | exact hT _ _) (by first | assumption | omega | exact ⟨by omega, by omega⟩ | exact hS _ _ | exact hT _ _)) rfl rfl (Nat.le_of_ble_eq_true rfl) ⟨⟨Nat.le_of_ble_eq_true rfl, Nat.le_of_ble_eq_true rfl⟩, Nat.le_of_ble_eq_true rfl, Nat.le_of_ble_eq_true rfl⟩ ?_
  refine G_i2l (pc := 15) dX6_mixPartition_15 (by first | exact hS _ _ | exact hT _ _ | exact ⟨by omega, by omega⟩ | assumption | exact ztl_R hS) ?_
  refine G_callSd (pc := 16) gk_X6_290 dX6_mixPartition_16 (c_X6_mix ) rfl rfl (Nat.le_of_ble_eq_true rfl) ⟨⟨Nat.le_of_ble_eq_true rfl, Nat.le_of_ble_eq_true rfl⟩, Nat.le_of_ble_eq_true rfl, Nat.le_of_ble_eq_true rfl⟩ ?_
  refine G_lstore_ne (pc := 19) 3 (fun zw => [(3, .long (zL zw)), (0, .long (zL x)), (2, .ref (ad (11, t, p, 0)))]) dX6_mixPartition_19 rfl (by decide) (fun _ => rfl) (fun v19 e19 => ?_)
  refine G_lload_n (pc := 20) 3 0 dX6_mixPartition_20 rfl rfl ?_
  refine G_aload_n (pc := 21) 2 2 dX6_mixPartition_21 rfl rfl ?_
  refine G_callVd (pc := 22) gk_X6_157 dX6_mixPartition_22 (mg_11 (by first | assumption | omega | exact ⟨by omega, by omega⟩ | exact hS _ _ | exact hT _ _)) rfl (c_X3_stableEnd (by first | assumption | omega | exact ⟨by omega, by omega⟩ | exact hS _ _ | exact hT _ _) (by first | assumption | omega | exact ⟨by omega, by omega⟩ | exact hS _ _ | exact hT _ _) (by first | assumption | omega | exact ⟨by omega, by omega⟩ | exact hS _ _ | exact hT _ _) (by first | assumption | omega | exact ⟨by omega, by omega⟩ | exact hS _ _ | exact hT _ _)) rfl rfl (Nat.le_of_ble_eq_true rfl) ⟨⟨Nat.le_of_ble_eq_true rfl, Nat.le_of_ble_eq_true rfl⟩, Nat.le_of_ble_eq_true rfl, Nat.le_of_ble_eq_true rfl⟩ ?_
  refine G_i2l (pc := 25) dX6_mixPartition_25 (by first | exact hS _ _ | exact hT _ _ | exact ⟨by omega, by omega⟩ | assumption | exact ztl_R hS) ?_
  refine G_callSd (pc := 26) gk_X6_290 dX6_mixPartition_26 (c_X6_mix ) rfl rfl (Nat.le_of_ble_eq_true rfl) ⟨⟨Nat.le_of_ble_eq_true rfl, Nat.le_of_ble_eq_true rfl⟩, Nat.le_of_ble_eq_true rfl, Nat.le_of_ble_eq_true rfl⟩ ?_
  refine G_lstore_ne (pc := 29) 3 (fun zw => [(3, .long (zL zw)), (0, .long (zL x)), (2, .ref (ad (11, t, p, 0)))]) dX6_mixPartition_29 rfl (by decide) (fun _ => rfl) (fun v29 e29 => ?_)
  refine G_iconst (pc := 30) dX6_mixPartition_30 ?_
  refine G_istore_e (pc := 31) (fun zw => [(5, .int (zI zw)), (3, .long (zL v29)), (0, .long (zL x)), (2, .ref (ad (11, t, p, 0)))]) dX6_mixPartition_31 (by decide) (fun _ => rfl) (fun v31 e31 => ?_)
  have L33 : ∀ (n : Nat) (d : Int) (o : Int), ((0 ≤ o ∧ o ≤ P 2 t p) ∧ lp (zxo S t p) o (P 2 t p) d = zxp P S t p x) → (P 2 t p - o).toNat < n → G Γ (zRm 6 0 0) cX6_mixPartition 7 RX6 ad (mm (z_d Γ) ad P S X) 0 0 33 [(0, .long (zL x)), (2, .ref (ad (11, t, p, 0))), (3, .long (zL d)), (5, .int (zI o))] [] := by
    intro n
    induction n with
    | zero => intro d o _ hn; omega
    | succ n ih33 =>
      intro d o hi33 hn33
      refine G_iload (pc := 33) 3 dX6_mixPartition_33 rfl ?_
      refine G_aload_n (pc := 35) 2 1 dX6_mixPartition_35 rfl rfl ?_
      refine G_callVd (pc := 36) gk_X6_156 dX6_mixPartition_36 (mg_11 (by first | assumption | omega | exact ⟨by omega, by omega⟩ | exact hS _ _ | exact hT _ _)) rfl (c_X3_size (by first | assumption | omega | exact ⟨by omega, by omega⟩ | exact hS _ _ | exact hT _ _) (by first | assumption | omega | exact ⟨by omega, by omega⟩ | exact hS _ _ | exact hT _ _)) rfl rfl (Nat.le_of_ble_eq_true rfl) ⟨⟨Nat.le_of_ble_eq_true rfl, Nat.le_of_ble_eq_true rfl⟩, Nat.le_of_ble_eq_true rfl, Nat.le_of_ble_eq_true rfl⟩ ?_
      refine G_icmp_ge (pc := 39) 80 dX6_mixPartition_39 (by decide) (by first | exact hS _ _ | exact hT _ _ | exact ⟨by omega, by omega⟩ | assumption | exact ztl_R hS) (by first | exact hS _ _ | exact hT _ _ | exact ⟨by omega, by omega⟩ | assumption | exact ztl_R hS) (fun c39 => ?_) (fun c39 => ?_)
      · refine G_lload_n (pc := 80) 3 2 dX6_mixPartition_80 rfl rfl ?_
        exact G_lret_d (pc := 81) hF dX6_mixPartition_81 ⟨Nat.le_of_ble_eq_true rfl, Nat.le_of_ble_eq_true rfl⟩ (by rw [← hi33.2, lp_end (by omega)])
      · refine G_iconst (pc := 42) dX6_mixPartition_42 ?_
        refine G_istore_e (pc := 43) (fun zw => [(6, .int (zI zw)), (0, .long (zL x)), (2, .ref (ad (11, t, p, 0))), (3, .long (zL d)), (5, .int (zI o))]) dX6_mixPartition_43 (by decide) (fun _ => rfl) (fun v43 e43 => ?_)
        have L45 : ∀ (n : Nat) (dw : Int) (w : Int), ((0 ≤ w ∧ w ≤ 5) ∧ lp (zxm S t p o) w 5 dw = zxo S t p o d) → (5 - w).toNat < n → G Γ (zRm 6 0 0) cX6_mixPartition 7 RX6 ad (mm (z_d Γ) ad P S X) 0 0 45 [(0, .long (zL x)), (2, .ref (ad (11, t, p, 0))), (3, .long (zL dw)), (5, .int (zI o)), (6, .int (zI w))] [] := by
          intro n
          induction n with
          | zero => intro dw w _ hn; omega
          | succ n ih45 =>
            intro dw w hi45 hn45
            refine G_iload (pc := 45) 4 dX6_mixPartition_45 rfl ?_
            refine G_iconst (pc := 47) dX6_mixPartition_47 ?_
            refine G_icmp_gt (pc := 48) 74 dX6_mixPartition_48 (by decide) (by first | exact hS _ _ | exact hT _ _ | exact ⟨by omega, by omega⟩ | assumption | exact ztl_R hS) (by first | exact hS _ _ | exact hT _ _ | exact ⟨by omega, by omega⟩ | assumption | exact ztl_R hS) (fun c48 => ?_) (fun c48 => ?_)
            · refine G_iinc_e (pc := 74) 3 (fun zw => [(5, .int (zI zw)), (0, .long (zL x)), (2, .ref (ad (11, t, p, 0))), (3, .long (zL dw)), (6, .int (zI w))]) dX6_mixPartition_74 rfl (by decide) (fun _ => rfl) (fun v74 e74 => ?_)
              refine G_goto (pc := 77) 33 dX6_mixPartition_77 (by decide) ?_
              refine G_perm (lv' := [(0, .long (zL x)), (2, .ref (ad (11, t, p, 0))), (3, .long (zL dw)), (5, .int (zI v74))]) [1, 2, 3, 0] rfl ?_
              exact ih33 dw v74  ⟨by omega, by rw [e74, ← hi33.2, lp_step (a := o) (n := P 2 t p) (by omega), show zxo S t p o d = dw by rw [← hi45.2, lp_end (by omega)]]⟩ (by omega)
            · refine G_lload_n (pc := 51) 3 2 dX6_mixPartition_51 rfl rfl ?_
              refine G_aload_n (pc := 52) 2 1 dX6_mixPartition_52 rfl rfl ?_
              refine G_iload (pc := 53) 3 dX6_mixPartition_53 rfl ?_
              refine G_callVd (pc := 55) gk_X6_167 dX6_mixPartition_55 (mg_11 (by first | assumption | omega | exact ⟨by omega, by omega⟩ | exact hS _ _ | exact hT _ _)) rfl (c_X3_at (by first | assumption | omega | exact ⟨by omega, by omega⟩ | exact hS _ _ | exact hT _ _) (by first | assumption | omega | exact ⟨by omega, by omega⟩ | exact hS _ _ | exact hT _ _) (by first | assumption | omega | exact ⟨by omega, by omega⟩ | exact hS _ _ | exact hT _ _) (by first | assumption | omega | exact ⟨by omega, by omega⟩ | exact hS _ _ | exact hT _ _)) rfl rfl (Nat.le_of_ble_eq_true rfl) ⟨⟨Nat.le_of_ble_eq_true rfl, Nat.le_of_ble_eq_true rfl⟩, Nat.le_of_ble_eq_true rfl, Nat.le_of_ble_eq_true rfl⟩ ?_
              refine G_iload (pc := 58) 4 dX6_mixPartition_58 rfl ?_
              refine G_callVd (pc := 60) gk_X6_171 dX6_mixPartition_60 (mg_14 (by first | assumption | omega | exact ⟨by omega, by omega⟩ | exact hS _ _ | exact hT _ _)) rfl (c_X2_tell (by first | assumption | omega | exact ⟨by omega, by omega⟩ | exact hS _ _ | exact hT _ _) (by first | assumption | omega | exact ⟨by omega, by omega⟩ | exact hS _ _ | exact hT _ _) (by first | assumption | omega | exact ⟨by omega, by omega⟩ | exact hS _ _ | exact hT _ _) (by first | assumption | omega | exact ⟨by omega, by omega⟩ | exact hS _ _ | exact hT _ _) (by first | assumption | omega | exact ⟨by omega, by omega⟩ | exact hS _ _ | exact hT _ _)) rfl rfl (Nat.le_of_ble_eq_true rfl) ⟨⟨Nat.le_of_ble_eq_true rfl, Nat.le_of_ble_eq_true rfl⟩, Nat.le_of_ble_eq_true rfl, Nat.le_of_ble_eq_true rfl⟩ ?_
              refine G_i2l (pc := 63) dX6_mixPartition_63 (by first | exact hS _ _ | exact hT _ _ | exact ⟨by omega, by omega⟩ | assumption | exact ztl_R hS) ?_
              refine G_callSd (pc := 64) gk_X6_290 dX6_mixPartition_64 (c_X6_mix ) rfl rfl (Nat.le_of_ble_eq_true rfl) ⟨⟨Nat.le_of_ble_eq_true rfl, Nat.le_of_ble_eq_true rfl⟩, Nat.le_of_ble_eq_true rfl, Nat.le_of_ble_eq_true rfl⟩ ?_
              refine G_lstore_ne (pc := 67) 3 (fun zw => [(3, .long (zL zw)), (0, .long (zL x)), (2, .ref (ad (11, t, p, 0))), (5, .int (zI o)), (6, .int (zI w))]) dX6_mixPartition_67 rfl (by decide) (fun _ => rfl) (fun v67 e67 => ?_)
              refine G_iinc_e (pc := 68) 4 (fun zw => [(6, .int (zI zw)), (3, .long (zL v67)), (0, .long (zL x)), (2, .ref (ad (11, t, p, 0))), (5, .int (zI o))]) dX6_mixPartition_68 rfl (by decide) (fun _ => rfl) (fun v68 e68 => ?_)
              refine G_goto (pc := 71) 45 dX6_mixPartition_71 (by decide) ?_
              refine G_perm (lv' := [(0, .long (zL x)), (2, .ref (ad (11, t, p, 0))), (3, .long (zL v67)), (5, .int (zI o)), (6, .int (zI v68))]) [2, 3, 1, 4, 0] rfl ?_
              exact ih45 v67 v68  ⟨by omega, by rw [e68, e67, ← hi45.2, lp_step (a := w) (n := 5) (by omega)]; rfl⟩ (by omega)
        refine G_perm (lv' := [(0, .long (zL x)), (2, .ref (ad (11, t, p, 0))), (3, .long (zL d)), (5, .int (zI o)), (6, .int (zI v43))]) [1, 2, 3, 4, 0] rfl ?_
        exact L45 _ d v43  ⟨by omega, by rw [e43]; rfl⟩ (Nat.lt_succ_self _)
  refine G_perm (lv' := [(0, .long (zL x)), (2, .ref (ad (11, t, p, 0))), (3, .long (zL v29)), (5, .int (zI v31))]) [2, 3, 1, 0] rfl ?_
  exact L33 _ v29 v31  ⟨by omega, by rw [e31, e29, e19, e9]; rfl⟩ (Nat.lt_succ_self _)
set_option maxHeartbeats 4000000 in
set_option maxRecDepth 100000 in
theorem c_X6_mixTopic {l : Launch} {Δ : zDl} {ad : zK → Nat} {P : zP} {S : zS} {X : zMem} {t x : Int} (hP : zWP P) (ht : 0 ≤ t ∧ t < P 0 0 0) (hW : zWS P S) : zMn l Δ yX6_mixTopic cX6_mixTopic 6 (some .long) 8 0 0 [.long (zL x), .ref (ad (8, t, 0, 0))] ad (mm Δ ad P S X) (zD (some (.long (zL (zxt P S t x)))) ad (mm Δ ad P S X)) := by
  refine zMn_of (by decide) (Nat.le_of_ble_eq_true rfl) (fun Γ hl hΔ hF => ?_)
  subst hl hΔ
  show G Γ _ _ _ RX6 _ _ _ _ _ [(0, .long (zL x)), (2, .ref (ad (8, t, 0, 0)))] []
  have hN := hP.t ht
  have hS := hW.R
  have hb := hW.b
  refine G_lload_n (pc := 0) 0 0 dX6_mixTopic_0 rfl rfl ?_
  refine G_aload_n (pc := 1) 2 1 dX6_mixTopic_1 rfl rfl ?_
  refine G_callVd (pc := 2) gk_X6_175 dX6_mixTopic_2 (mg_8 (by first | assumption | omega | exact ⟨by omega, by omega⟩ | exact hS _ _ | exact hT _ _)) rfl (c_X5_countKept (by first | assumption | omega | exact ⟨by omega, by omega⟩ | exact hS _ _ | exact hT _ _) (by first | assumption | omega | exact ⟨by omega, by omega⟩ | exact hS _ _ | exact hT _ _) (by first | assumption | omega | exact ⟨by omega, by omega⟩ | exact hS _ _ | exact hT _ _)) rfl rfl (Nat.le_of_ble_eq_true rfl) ⟨⟨Nat.le_of_ble_eq_true rfl, Nat.le_of_ble_eq_true rfl⟩, Nat.le_of_ble_eq_true rfl, Nat.le_of_ble_eq_true rfl⟩ ?_
  refine G_i2l (pc := 5) dX6_mixTopic_5 (by first | exact hS _ _ | exact hT _ _ | exact ⟨by omega, by omega⟩ | assumption | exact ztkS_R hP ht | exact ztcS_R hP ht) ?_
  refine G_callSd (pc := 6) gk_X6_290 dX6_mixTopic_6 (c_X6_mix ) rfl rfl (Nat.le_of_ble_eq_true rfl) ⟨⟨Nat.le_of_ble_eq_true rfl, Nat.le_of_ble_eq_true rfl⟩, Nat.le_of_ble_eq_true rfl, Nat.le_of_ble_eq_true rfl⟩ ?_
  refine G_lstore_ne (pc := 9) 3 (fun zw => [(3, .long (zL zw)), (0, .long (zL x)), (2, .ref (ad (8, t, 0, 0)))]) dX6_mixTopic_9 rfl (by decide) (fun _ => rfl) (fun v9 e9 => ?_)
  refine G_lload_n (pc := 10) 3 0 dX6_mixTopic_10 rfl rfl ?_
  refine G_aload_n (pc := 11) 2 2 dX6_mixTopic_11 rfl rfl ?_
  refine G_callVd (pc := 12) gk_X6_285 dX6_mixTopic_12 (mg_8 (by first | assumption | omega | exact ⟨by omega, by omega⟩ | exact hS _ _ | exact hT _ _)) rfl (c_X5_countOutdated (by first | assumption | omega | exact ⟨by omega, by omega⟩ | exact hS _ _ | exact hT _ _) (by first | assumption | omega | exact ⟨by omega, by omega⟩ | exact hS _ _ | exact hT _ _) (by first | assumption | omega | exact ⟨by omega, by omega⟩ | exact hS _ _ | exact hT _ _)) rfl rfl (Nat.le_of_ble_eq_true rfl) ⟨⟨Nat.le_of_ble_eq_true rfl, Nat.le_of_ble_eq_true rfl⟩, Nat.le_of_ble_eq_true rfl, Nat.le_of_ble_eq_true rfl⟩ ?_
  refine G_i2l (pc := 15) dX6_mixTopic_15 (by first | exact hS _ _ | exact hT _ _ | exact ⟨by omega, by omega⟩ | assumption | exact ztkS_R hP ht | exact ztcS_R hP ht) ?_
  refine G_callSd (pc := 16) gk_X6_290 dX6_mixTopic_16 (c_X6_mix ) rfl rfl (Nat.le_of_ble_eq_true rfl) ⟨⟨Nat.le_of_ble_eq_true rfl, Nat.le_of_ble_eq_true rfl⟩, Nat.le_of_ble_eq_true rfl, Nat.le_of_ble_eq_true rfl⟩ ?_
  refine G_lstore_ne (pc := 19) 3 (fun zw => [(3, .long (zL zw)), (0, .long (zL x)), (2, .ref (ad (8, t, 0, 0)))]) dX6_mixTopic_19 rfl (by decide) (fun _ => rfl) (fun v19 e19 => ?_)
  refine G_iconst (pc := 20) dX6_mixTopic_20 ?_
  refine G_istore_e (pc := 21) (fun zw => [(5, .int (zI zw)), (3, .long (zL v19)), (0, .long (zL x)), (2, .ref (ad (8, t, 0, 0)))]) dX6_mixTopic_21 (by decide) (fun _ => rfl) (fun v21 e21 => ?_)
  have L23 : ∀ (n : Nat) (d : Int) (p : Int), ((0 ≤ p ∧ p ≤ P 1 t 0) ∧ lp (zxp P S t) p (P 1 t 0) d = zxt P S t x) → (P 1 t 0 - p).toNat < n → G Γ (zRm 8 0 0) cX6_mixTopic 6 RX6 ad (mm (z_d Γ) ad P S X) 0 0 23 [(0, .long (zL x)), (2, .ref (ad (8, t, 0, 0))), (3, .long (zL d)), (5, .int (zI p))] [] := by
    intro n
    induction n with
    | zero => intro d p _ hn; omega
    | succ n ih23 =>
      intro d p hi23 hn23
      refine G_iload (pc := 23) 3 dX6_mixTopic_23 rfl ?_
      refine G_aload_n (pc := 25) 2 1 dX6_mixTopic_25 rfl rfl ?_
      refine G_getf (pc := 26) fl_X6_304 dX6_mixTopic_26 (mg_8 (by first | assumption | omega | exact ⟨by omega, by omega⟩ | exact hS _ _ | exact hT _ _)) rfl ?_
      refine G_alen (pc := 29) (t := 2) rfl dX6_mixTopic_29 (mg_9 (by first | assumption | omega | exact ⟨by omega, by omega⟩ | exact hS _ _ | exact hT _ _)) ?_
      refine G_icmp_ge (pc := 30) 51 dX6_mixTopic_30 (by decide) (by first | exact hS _ _ | exact hT _ _ | exact ⟨by omega, by omega⟩ | assumption | exact ztkS_R hP ht | exact ztcS_R hP ht) (by first | exact hS _ _ | exact hT _ _ | exact ⟨by omega, by omega⟩ | assumption | exact ztkS_R hP ht | exact ztcS_R hP ht) (fun c30 => ?_) (fun c30 => ?_)
      · refine G_lload_n (pc := 51) 3 2 dX6_mixTopic_51 rfl rfl ?_
        exact G_lret_d (pc := 52) hF dX6_mixTopic_52 ⟨Nat.le_of_ble_eq_true rfl, Nat.le_of_ble_eq_true rfl⟩ (by rw [← hi23.2, lp_end (by omega)])
      · refine G_lload_n (pc := 33) 3 2 dX6_mixTopic_33 rfl rfl ?_
        refine G_aload_n (pc := 34) 2 1 dX6_mixTopic_34 rfl rfl ?_
        refine G_getf (pc := 35) fl_X6_304 dX6_mixTopic_35 (mg_8 (by first | assumption | omega | exact ⟨by omega, by omega⟩ | exact hS _ _ | exact hT _ _)) rfl ?_
        refine G_iload (pc := 38) 3 dX6_mixTopic_38 rfl ?_
        refine G_aald (pc := 40) (t := 2) rfl dX6_mixTopic_40 (mg_9 (by first | assumption | omega | exact ⟨by omega, by omega⟩ | exact hS _ _ | exact hT _ _)) ⟨by omega, by omega, by omega, by omega⟩ rfl ?_
        refine G_callSd (pc := 41) gk_X6_308 dX6_mixTopic_41 (c_X6_mixPartition (by first | assumption | omega | exact ⟨by omega, by omega⟩ | exact hS _ _ | exact hT _ _) (by first | assumption | omega | exact ⟨by omega, by omega⟩ | exact hS _ _ | exact hT _ _) (by first | assumption | omega | exact ⟨by omega, by omega⟩ | exact hS _ _ | exact hT _ _) (by first | assumption | omega | exact ⟨by omega, by omega⟩ | exact hS _ _ | exact hT _ _)) rfl rfl (Nat.le_of_ble_eq_true rfl) ⟨⟨Nat.le_of_ble_eq_true rfl, Nat.le_of_ble_eq_true rfl⟩, Nat.le_of_ble_eq_true rfl, Nat.le_of_ble_eq_true rfl⟩ ?_
        refine G_lstore_ne (pc := 44) 3 (fun zw => [(3, .long (zL zw)), (0, .long (zL x)), (2, .ref (ad (8, t, 0, 0))), (5, .int (zI p))]) dX6_mixTopic_44 rfl (by decide) (fun _ => rfl) (fun v44 e44 => ?_)
        refine G_iinc_e (pc := 45) 3 (fun zw => [(5, .int (zI zw)), (3, .long (zL v44)), (0, .long (zL x)), (2, .ref (ad (8, t, 0, 0)))]) dX6_mixTopic_45 rfl (by decide) (fun _ => rfl) (fun v45 e45 => ?_)
        refine G_goto (pc := 48) 23 dX6_mixTopic_48 (by decide) ?_
        refine G_perm (lv' := [(0, .long (zL x)), (2, .ref (ad (8, t, 0, 0))), (3, .long (zL v44)), (5, .int (zI v45))]) [2, 3, 1, 0] rfl ?_
        exact ih23 v44 v45  ⟨by omega, by rw [e45, e44, ← hi23.2, lp_step (a := p) (n := P 1 t 0) (by omega)]⟩ (by omega)
  refine G_perm (lv' := [(0, .long (zL x)), (2, .ref (ad (8, t, 0, 0))), (3, .long (zL v19)), (5, .int (zI v21))]) [2, 3, 1, 0] rfl ?_
  exact L23 _ v19 v21  ⟨by omega, by rw [e21, e19, e9]; rfl⟩ (Nat.lt_succ_self _)
set_option maxHeartbeats 4000000 in
set_option maxRecDepth 100000 in
theorem c_X6_mixProgress {l : Launch} {Δ : zDl} {ad : zK → Nat} {P : zP} {S : zS} {X : zMem} {g p x : Int} (hP : zWP P) (hg : 0 ≤ g ∧ g < P 3 0 0) (hp : 0 ≤ p ∧ p < P 1 (P 4 g 0) 0) (hW : zWS P S) : zMn l Δ yX6_mixProgress cX6_mixProgress 6 (some .long) 7 0 0 [.long (zL x), .ref (ad (18, g, p, 0))] ad (mm Δ ad P S X) (zD (some (.long (zL (zxq P S g p x)))) ad (mm Δ ad P S X)) := by
  refine zMn_of (by decide) (Nat.le_of_ble_eq_true rfl) (fun Γ hl hΔ hF => ?_)
  subst hl hΔ
  show G Γ _ _ _ RX6 _ _ _ _ _ [(0, .long (zL x)), (2, .ref (ad (18, g, p, 0)))] []
  have hG := hP.g hg
  have hM := hP.m hG hp
  have hN := hP.t hG
  have hS := hW.R
  have hW5 := hW.m hg hp
  refine G_lload_n (pc := 0) 0 0 dX6_mixProgress_0 rfl rfl ?_
  refine G_aload_n (pc := 1) 2 1 dX6_mixProgress_1 rfl rfl ?_
  refine G_getf (pc := 2) fl_X6_245 dX6_mixProgress_2 (mg_18 (by first | assumption | omega | exact ⟨by omega, by omega⟩ | exact hS _ _ | exact hT _ _)) rfl ?_
  refine G_i2l (pc := 5) dX6_mixProgress_5 (by first | exact hS _ _ | exact hT _ _ | exact ⟨by omega, by omega⟩ | assumption | exact zlag_R hP hW hg hp) ?_
  refine G_callSd (pc := 6) gk_X6_290 dX6_mixProgress_6 (c_X6_mix ) rfl rfl (Nat.le_of_ble_eq_true rfl) ⟨⟨Nat.le_of_ble_eq_true rfl, Nat.le_of_ble_eq_true rfl⟩, Nat.le_of_ble_eq_true rfl, Nat.le_of_ble_eq_true rfl⟩ ?_
  refine G_lstore_ne (pc := 9) 3 (fun zw => [(3, .long (zL zw)), (0, .long (zL x)), (2, .ref (ad (18, g, p, 0)))]) dX6_mixProgress_9 rfl (by decide) (fun _ => rfl) (fun v9 e9 => ?_)
  refine G_lload_n (pc := 10) 3 0 dX6_mixProgress_10 rfl rfl ?_
  refine G_aload_n (pc := 11) 2 2 dX6_mixProgress_11 rfl rfl ?_
  refine G_getf (pc := 12) fl_X6_229 dX6_mixProgress_12 (mg_18 (by first | assumption | omega | exact ⟨by omega, by omega⟩ | exact hS _ _ | exact hT _ _)) rfl ?_
  refine G_i2l (pc := 15) dX6_mixProgress_15 (by first | exact hS _ _ | exact hT _ _ | exact ⟨by omega, by omega⟩ | assumption | exact zlag_R hP hW hg hp) ?_
  refine G_callSd (pc := 16) gk_X6_290 dX6_mixProgress_16 (c_X6_mix ) rfl rfl (Nat.le_of_ble_eq_true rfl) ⟨⟨Nat.le_of_ble_eq_true rfl, Nat.le_of_ble_eq_true rfl⟩, Nat.le_of_ble_eq_true rfl, Nat.le_of_ble_eq_true rfl⟩ ?_
  refine G_lstore_ne (pc := 19) 3 (fun zw => [(3, .long (zL zw)), (0, .long (zL x)), (2, .ref (ad (18, g, p, 0)))]) dX6_mixProgress_19 rfl (by decide) (fun _ => rfl) (fun v19 e19 => ?_)
  refine G_lload_n (pc := 20) 3 0 dX6_mixProgress_20 rfl rfl ?_
  refine G_aload_n (pc := 21) 2 2 dX6_mixProgress_21 rfl rfl ?_
  refine G_getf (pc := 22) fl_X6_248 dX6_mixProgress_22 (mg_18 (by first | assumption | omega | exact ⟨by omega, by omega⟩ | exact hS _ _ | exact hT _ _)) rfl ?_
  refine G_i2l (pc := 25) dX6_mixProgress_25 (by first | exact hS _ _ | exact hT _ _ | exact ⟨by omega, by omega⟩ | assumption | exact zlag_R hP hW hg hp) ?_
  refine G_callSd (pc := 26) gk_X6_290 dX6_mixProgress_26 (c_X6_mix ) rfl rfl (Nat.le_of_ble_eq_true rfl) ⟨⟨Nat.le_of_ble_eq_true rfl, Nat.le_of_ble_eq_true rfl⟩, Nat.le_of_ble_eq_true rfl, Nat.le_of_ble_eq_true rfl⟩ ?_
  refine G_lstore_ne (pc := 29) 3 (fun zw => [(3, .long (zL zw)), (0, .long (zL x)), (2, .ref (ad (18, g, p, 0)))]) dX6_mixProgress_29 rfl (by decide) (fun _ => rfl) (fun v29 e29 => ?_)
  refine G_lload_n (pc := 30) 3 0 dX6_mixProgress_30 rfl rfl ?_
  refine G_aload_n (pc := 31) 2 2 dX6_mixProgress_31 rfl rfl ?_
  refine G_callVd (pc := 32) gk_X6_257 dX6_mixProgress_32 (mg_18 (by first | assumption | omega | exact ⟨by omega, by omega⟩ | exact hS _ _ | exact hT _ _)) rfl (c_X4_countUnread (by first | assumption | omega | exact ⟨by omega, by omega⟩ | exact hS _ _ | exact hT _ _) (by first | assumption | omega | exact ⟨by omega, by omega⟩ | exact hS _ _ | exact hT _ _) (by first | assumption | omega | exact ⟨by omega, by omega⟩ | exact hS _ _ | exact hT _ _) (by first | assumption | omega | exact ⟨by omega, by omega⟩ | exact hS _ _ | exact hT _ _)) rfl rfl (Nat.le_of_ble_eq_true rfl) ⟨⟨Nat.le_of_ble_eq_true rfl, Nat.le_of_ble_eq_true rfl⟩, Nat.le_of_ble_eq_true rfl, Nat.le_of_ble_eq_true rfl⟩ ?_
  refine G_i2l (pc := 35) dX6_mixProgress_35 (by first | exact hS _ _ | exact hT _ _ | exact ⟨by omega, by omega⟩ | assumption | exact zlag_R hP hW hg hp) ?_
  refine G_callSd (pc := 36) gk_X6_290 dX6_mixProgress_36 (c_X6_mix ) rfl rfl (Nat.le_of_ble_eq_true rfl) ⟨⟨Nat.le_of_ble_eq_true rfl, Nat.le_of_ble_eq_true rfl⟩, Nat.le_of_ble_eq_true rfl, Nat.le_of_ble_eq_true rfl⟩ ?_
  refine G_lstore_ne (pc := 39) 3 (fun zw => [(3, .long (zL zw)), (0, .long (zL x)), (2, .ref (ad (18, g, p, 0)))]) dX6_mixProgress_39 rfl (by decide) (fun _ => rfl) (fun v39 e39 => ?_)
  refine G_iconst (pc := 40) dX6_mixProgress_40 ?_
  refine G_istore_e (pc := 41) (fun zw => [(5, .int (zI zw)), (3, .long (zL v39)), (0, .long (zL x)), (2, .ref (ad (18, g, p, 0)))]) dX6_mixProgress_41 (by decide) (fun _ => rfl) (fun v41 e41 => ?_)
  have L43 : ∀ (n : Nat) (d : Int) (o : Int), ((0 ≤ o ∧ o ≤ P 2 (P 4 g 0) p) ∧ lp (zxs S g p) o (P 2 (P 4 g 0) p) d = zxq P S g p x) → (P 2 (P 4 g 0) p - o).toNat < n → G Γ (zRm 7 0 0) cX6_mixProgress 6 RX6 ad (mm (z_d Γ) ad P S X) 0 0 43 [(0, .long (zL x)), (2, .ref (ad (18, g, p, 0))), (3, .long (zL d)), (5, .int (zI o))] [] := by
    intro n
    induction n with
    | zero => intro d o _ hn; omega
    | succ n ih43 =>
      intro d o hi43 hn43
      refine G_iload (pc := 43) 3 dX6_mixProgress_43 rfl ?_
      refine G_aload_n (pc := 45) 2 1 dX6_mixProgress_45 rfl rfl ?_
      refine G_getf (pc := 46) fl_X6_236 dX6_mixProgress_46 (mg_18 (by first | assumption | omega | exact ⟨by omega, by omega⟩ | exact hS _ _ | exact hT _ _)) rfl ?_
      refine G_callVd (pc := 49) gk_X6_156 dX6_mixProgress_49 (mg_11 (by first | assumption | omega | exact ⟨by omega, by omega⟩ | exact hS _ _ | exact hT _ _)) rfl (c_X3_size (by first | assumption | omega | exact ⟨by omega, by omega⟩ | exact hS _ _ | exact hT _ _) (by first | assumption | omega | exact ⟨by omega, by omega⟩ | exact hS _ _ | exact hT _ _)) rfl rfl (Nat.le_of_ble_eq_true rfl) ⟨⟨Nat.le_of_ble_eq_true rfl, Nat.le_of_ble_eq_true rfl⟩, Nat.le_of_ble_eq_true rfl, Nat.le_of_ble_eq_true rfl⟩ ?_
      refine G_icmp_ge (pc := 52) 87 dX6_mixProgress_52 (by decide) (by first | exact hS _ _ | exact hT _ _ | exact ⟨by omega, by omega⟩ | assumption | exact zlag_R hP hW hg hp) (by first | exact hS _ _ | exact hT _ _ | exact ⟨by omega, by omega⟩ | assumption | exact zlag_R hP hW hg hp) (fun c52 => ?_) (fun c52 => ?_)
      · refine G_lload_n (pc := 87) 3 2 dX6_mixProgress_87 rfl rfl ?_
        exact G_lret_d (pc := 88) hF dX6_mixProgress_88 ⟨Nat.le_of_ble_eq_true rfl, Nat.le_of_ble_eq_true rfl⟩ (by rw [← hi43.2, lp_end (by omega)])
      · refine G_lload_n (pc := 55) 3 2 dX6_mixProgress_55 rfl rfl ?_
        refine G_aload_n (pc := 56) 2 1 dX6_mixProgress_56 rfl rfl ?_
        refine G_getf (pc := 57) fl_X6_251 dX6_mixProgress_57 (mg_18 (by first | assumption | omega | exact ⟨by omega, by omega⟩ | exact hS _ _ | exact hT _ _)) rfl ?_
        refine G_iload (pc := 60) 3 dX6_mixProgress_60 rfl ?_
        refine G_iald (pc := 62) dX6_mixProgress_62 (mg_19 (by first | assumption | omega | exact ⟨by omega, by omega⟩ | exact hS _ _ | exact hT _ _)) ⟨by omega, by omega, by omega, by omega⟩ ?_
        refine G_i2l (pc := 63) dX6_mixProgress_63 (by first | exact hS _ _ | exact hT _ _ | exact ⟨by omega, by omega⟩ | assumption | exact zlag_R hP hW hg hp) ?_
        refine G_callSd (pc := 64) gk_X6_290 dX6_mixProgress_64 (c_X6_mix ) rfl rfl (Nat.le_of_ble_eq_true rfl) ⟨⟨Nat.le_of_ble_eq_true rfl, Nat.le_of_ble_eq_true rfl⟩, Nat.le_of_ble_eq_true rfl, Nat.le_of_ble_eq_true rfl⟩ ?_
        refine G_lstore_ne (pc := 67) 3 (fun zw => [(3, .long (zL zw)), (0, .long (zL x)), (2, .ref (ad (18, g, p, 0))), (5, .int (zI o))]) dX6_mixProgress_67 rfl (by decide) (fun _ => rfl) (fun v67 e67 => ?_)
        refine G_lload_n (pc := 68) 3 0 dX6_mixProgress_68 rfl rfl ?_
        refine G_aload_n (pc := 69) 2 2 dX6_mixProgress_69 rfl rfl ?_
        refine G_getf (pc := 70) fl_X6_254 dX6_mixProgress_70 (mg_18 (by first | assumption | omega | exact ⟨by omega, by omega⟩ | exact hS _ _ | exact hT _ _)) rfl ?_
        refine G_iload (pc := 73) 3 dX6_mixProgress_73 rfl ?_
        refine G_iald (pc := 75) dX6_mixProgress_75 (mg_20 (by first | assumption | omega | exact ⟨by omega, by omega⟩ | exact hS _ _ | exact hT _ _)) ⟨by omega, by omega, by omega, by omega⟩ ?_
        refine G_i2l (pc := 76) dX6_mixProgress_76 (by first | exact hS _ _ | exact hT _ _ | exact ⟨by omega, by omega⟩ | assumption | exact zlag_R hP hW hg hp) ?_
        refine G_callSd (pc := 77) gk_X6_290 dX6_mixProgress_77 (c_X6_mix ) rfl rfl (Nat.le_of_ble_eq_true rfl) ⟨⟨Nat.le_of_ble_eq_true rfl, Nat.le_of_ble_eq_true rfl⟩, Nat.le_of_ble_eq_true rfl, Nat.le_of_ble_eq_true rfl⟩ ?_
        refine G_lstore_ne (pc := 80) 3 (fun zw => [(3, .long (zL zw)), (0, .long (zL x)), (2, .ref (ad (18, g, p, 0))), (5, .int (zI o))]) dX6_mixProgress_80 rfl (by decide) (fun _ => rfl) (fun v80 e80 => ?_)
        refine G_iinc_e (pc := 81) 3 (fun zw => [(5, .int (zI zw)), (3, .long (zL v80)), (0, .long (zL x)), (2, .ref (ad (18, g, p, 0)))]) dX6_mixProgress_81 rfl (by decide) (fun _ => rfl) (fun v81 e81 => ?_)
        refine G_goto (pc := 84) 43 dX6_mixProgress_84 (by decide) ?_
        refine G_perm (lv' := [(0, .long (zL x)), (2, .ref (ad (18, g, p, 0))), (3, .long (zL v80)), (5, .int (zI v81))]) [2, 3, 1, 0] rfl ?_
        exact ih43 v80 v81  ⟨by omega, by rw [e81, e80, e67, ← hi43.2, lp_step (a := o) (n := P 2 (P 4 g 0) p) (by omega)]; rfl⟩ (by omega)
  refine G_perm (lv' := [(0, .long (zL x)), (2, .ref (ad (18, g, p, 0))), (3, .long (zL v39)), (5, .int (zI v41))]) [2, 3, 1, 0] rfl ?_
  exact L43 _ v39 v41  ⟨by omega, by rw [e41, e39, e29, e19, e9]; rfl⟩ (Nat.lt_succ_self _)
set_option maxHeartbeats 4000000 in
set_option maxRecDepth 100000 in
theorem c_X6_mixGroup {l : Launch} {Δ : zDl} {ad : zK → Nat} {P : zP} {S : zS} {X : zMem} {g x : Int} (hP : zWP P) (hg : 0 ≤ g ∧ g < P 3 0 0) (hW : zWS P S) : zMn l Δ yX6_mixGroup cX6_mixGroup 7 (some .long) 8 0 0 [.ref (ad (0, 0, 0, 0)), .long (zL x), .ref (ad (15, g, 0, 0))] ad (mm Δ ad P S X) (zD (some (.long (zL (zxg P S g x)))) ad (mm Δ ad P S X)) := by
  refine zMn_of (by decide) (Nat.le_of_ble_eq_true rfl) (fun Γ hl hΔ hF => ?_)
  subst hl hΔ
  show G Γ _ _ _ RX6 _ _ _ _ _ [(0, .ref (ad (0, 0, 0, 0))), (1, .long (zL x)), (3, .ref (ad (15, g, 0, 0)))] []
  have hG := hP.g hg
  have hN := hP.t hG
  have hS := hW.R
  have hk := hW.k
  have hco := zcoS_le hP (S := S) (x := 4) hg
  have hnx := zng_le hP hW hg hk.1 hk.2.2
  refine G_lload_n (pc := 0) 1 1 dX6_mixGroup_0 rfl rfl ?_
  refine G_aload_n (pc := 1) 3 2 dX6_mixGroup_1 rfl rfl ?_
  refine G_iconst (pc := 2) dX6_mixGroup_2 ?_
  refine G_callVd (pc := 3) gk_X6_260 dX6_mixGroup_3 (mg_15 (by first | assumption | omega | exact ⟨by omega, by omega⟩ | exact hS _ _ | exact hT _ _)) rfl (c_X0_countOf (by first | assumption | omega | exact ⟨by omega, by omega⟩ | exact hS _ _ | exact hT _ _) (by first | assumption | omega | exact ⟨by omega, by omega⟩ | exact hS _ _ | exact hT _ _) (by first | assumption | omega | exact ⟨by omega, by omega⟩ | exact hS _ _ | exact hT _ _) (by first | assumption | omega | exact ⟨by omega, by omega⟩ | exact hS _ _ | exact hT _ _)) rfl rfl (Nat.le_of_ble_eq_true rfl) ⟨⟨Nat.le_of_ble_eq_true rfl, Nat.le_of_ble_eq_true rfl⟩, Nat.le_of_ble_eq_true rfl, Nat.le_of_ble_eq_true rfl⟩ ?_
  refine G_i2l (pc := 6) dX6_mixGroup_6 (by first | exact hS _ _ | exact hT _ _ | exact ⟨by omega, by omega⟩ | assumption) ?_
  refine G_callSd (pc := 7) gk_X6_290 dX6_mixGroup_7 (c_X6_mix ) rfl rfl (Nat.le_of_ble_eq_true rfl) ⟨⟨Nat.le_of_ble_eq_true rfl, Nat.le_of_ble_eq_true rfl⟩, Nat.le_of_ble_eq_true rfl, Nat.le_of_ble_eq_true rfl⟩ ?_
  refine G_lstore_e (pc := 10) (fun zw => [(4, .long (zL zw)), (0, .ref (ad (0, 0, 0, 0))), (1, .long (zL x)), (3, .ref (ad (15, g, 0, 0)))]) dX6_mixGroup_10 (by decide) (fun _ => rfl) (fun v10 e10 => ?_)
  refine G_lload (pc := 12) 0 dX6_mixGroup_12 rfl ?_
  refine G_aload_n (pc := 14) 3 3 dX6_mixGroup_14 rfl rfl ?_
  refine G_aload_n (pc := 15) 0 1 dX6_mixGroup_15 rfl rfl ?_
  refine G_getf (pc := 16) fl_X6_37 dX6_mixGroup_16 mg_0 rfl ?_
  refine G_aload_n (pc := 19) 0 1 dX6_mixGroup_19 rfl rfl ?_
  refine G_getf (pc := 20) fl_X6_43 dX6_mixGroup_20 mg_0 rfl ?_
  refine G_callVd (pc := 23) gk_X6_282 dX6_mixGroup_23 (mg_15 (by first | assumption | omega | exact ⟨by omega, by omega⟩ | exact hS _ _ | exact hT _ _)) rfl (c_X0_nextTimeFrom (by first | assumption | omega | exact ⟨by omega, by omega⟩ | exact hS _ _ | exact hT _ _) (by first | assumption | omega | exact ⟨by omega, by omega⟩ | exact hS _ _ | exact hT _ _) (by first | assumption | omega | exact ⟨by omega, by omega⟩ | exact hS _ _ | exact hT _ _) (by first | assumption | omega | exact ⟨by omega, by omega⟩ | exact hS _ _ | exact hT _ _) (by first | assumption | omega | exact ⟨by omega, by omega⟩ | exact hS _ _ | exact hT _ _)) rfl rfl (Nat.le_of_ble_eq_true rfl) ⟨⟨Nat.le_of_ble_eq_true rfl, Nat.le_of_ble_eq_true rfl⟩, Nat.le_of_ble_eq_true rfl, Nat.le_of_ble_eq_true rfl⟩ ?_
  refine G_i2l (pc := 26) dX6_mixGroup_26 (by first | exact hS _ _ | exact hT _ _ | exact ⟨by omega, by omega⟩ | assumption) ?_
  refine G_callSd (pc := 27) gk_X6_290 dX6_mixGroup_27 (c_X6_mix ) rfl rfl (Nat.le_of_ble_eq_true rfl) ⟨⟨Nat.le_of_ble_eq_true rfl, Nat.le_of_ble_eq_true rfl⟩, Nat.le_of_ble_eq_true rfl, Nat.le_of_ble_eq_true rfl⟩ ?_
  refine G_lstore_e (pc := 30) (fun zw => [(4, .long (zL zw)), (0, .ref (ad (0, 0, 0, 0))), (1, .long (zL x)), (3, .ref (ad (15, g, 0, 0)))]) dX6_mixGroup_30 (by decide) (fun _ => rfl) (fun v30 e30 => ?_)
  refine G_iconst (pc := 32) dX6_mixGroup_32 ?_
  refine G_istore_e (pc := 33) (fun zw => [(6, .int (zI zw)), (4, .long (zL v30)), (0, .ref (ad (0, 0, 0, 0))), (1, .long (zL x)), (3, .ref (ad (15, g, 0, 0)))]) dX6_mixGroup_33 (by decide) (fun _ => rfl) (fun v33 e33 => ?_)
  have L35 : ∀ (n : Nat) (d : Int) (p : Int), ((0 ≤ p ∧ p ≤ P 1 (P 4 g 0) 0) ∧ lp (zxq P S g) p (P 1 (P 4 g 0) 0) d = zxg P S g x) → (P 1 (P 4 g 0) 0 - p).toNat < n → G Γ (zRm 8 0 0) cX6_mixGroup 7 RX6 ad (mm (z_d Γ) ad P S X) 0 0 35 [(0, .ref (ad (0, 0, 0, 0))), (1, .long (zL x)), (3, .ref (ad (15, g, 0, 0))), (4, .long (zL d)), (6, .int (zI p))] [] := by
    intro n
    induction n with
    | zero => intro d p _ hn; omega
    | succ n ih35 =>
      intro d p hi35 hn35
      refine G_iload (pc := 35) 4 dX6_mixGroup_35 rfl ?_
      refine G_aload_n (pc := 37) 3 2 dX6_mixGroup_37 rfl rfl ?_
      refine G_getf (pc := 38) fl_X6_204 dX6_mixGroup_38 (mg_15 (by first | assumption | omega | exact ⟨by omega, by omega⟩ | exact hS _ _ | exact hT _ _)) rfl ?_
      refine G_alen (pc := 41) (t := 3) rfl dX6_mixGroup_41 (mg_16 (by first | assumption | omega | exact ⟨by omega, by omega⟩ | exact hS _ _ | exact hT _ _)) ?_
      refine G_icmp_ge (pc := 42) 65 dX6_mixGroup_42 (by decide) (by first | exact hS _ _ | exact hT _ _ | exact ⟨by omega, by omega⟩ | assumption) (by first | exact hS _ _ | exact hT _ _ | exact ⟨by omega, by omega⟩ | assumption) (fun c42 => ?_) (fun c42 => ?_)
      · refine G_lload (pc := 65) 3 dX6_mixGroup_65 rfl ?_
        exact G_lret_d (pc := 67) hF dX6_mixGroup_67 ⟨Nat.le_of_ble_eq_true rfl, Nat.le_of_ble_eq_true rfl⟩ (by rw [← hi35.2, lp_end (by omega)])
      · refine G_lload (pc := 45) 3 dX6_mixGroup_45 rfl ?_
        refine G_aload_n (pc := 47) 3 2 dX6_mixGroup_47 rfl rfl ?_
        refine G_getf (pc := 48) fl_X6_204 dX6_mixGroup_48 (mg_15 (by first | assumption | omega | exact ⟨by omega, by omega⟩ | exact hS _ _ | exact hT _ _)) rfl ?_
        refine G_iload (pc := 51) 4 dX6_mixGroup_51 rfl ?_
        refine G_aald (pc := 53) (t := 3) rfl dX6_mixGroup_53 (mg_16 (by first | assumption | omega | exact ⟨by omega, by omega⟩ | exact hS _ _ | exact hT _ _)) ⟨by omega, by omega, by omega, by omega⟩ rfl ?_
        refine G_callSd (pc := 54) gk_X6_312 dX6_mixGroup_54 (c_X6_mixProgress (by first | assumption | omega | exact ⟨by omega, by omega⟩ | exact hS _ _ | exact hT _ _) (by first | assumption | omega | exact ⟨by omega, by omega⟩ | exact hS _ _ | exact hT _ _) (by first | assumption | omega | exact ⟨by omega, by omega⟩ | exact hS _ _ | exact hT _ _) (by first | assumption | omega | exact ⟨by omega, by omega⟩ | exact hS _ _ | exact hT _ _)) rfl rfl (Nat.le_of_ble_eq_true rfl) ⟨⟨Nat.le_of_ble_eq_true rfl, Nat.le_of_ble_eq_true rfl⟩, Nat.le_of_ble_eq_true rfl, Nat.le_of_ble_eq_true rfl⟩ ?_
        refine G_lstore_e (pc := 57) (fun zw => [(4, .long (zL zw)), (0, .ref (ad (0, 0, 0, 0))), (1, .long (zL x)), (3, .ref (ad (15, g, 0, 0))), (6, .int (zI p))]) dX6_mixGroup_57 (by decide) (fun _ => rfl) (fun v57 e57 => ?_)
        refine G_iinc_e (pc := 59) 4 (fun zw => [(6, .int (zI zw)), (4, .long (zL v57)), (0, .ref (ad (0, 0, 0, 0))), (1, .long (zL x)), (3, .ref (ad (15, g, 0, 0)))]) dX6_mixGroup_59 rfl (by decide) (fun _ => rfl) (fun v59 e59 => ?_)
        refine G_goto (pc := 62) 35 dX6_mixGroup_62 (by decide) ?_
        refine G_perm (lv' := [(0, .ref (ad (0, 0, 0, 0))), (1, .long (zL x)), (3, .ref (ad (15, g, 0, 0))), (4, .long (zL v57)), (6, .int (zI v59))]) [2, 3, 4, 1, 0] rfl ?_
        exact ih35 v57 v59  ⟨by omega, by rw [e59, e57, ← hi35.2, lp_step (a := p) (n := P 1 (P 4 g 0) 0) (by omega)]⟩ (by omega)
  refine G_perm (lv' := [(0, .ref (ad (0, 0, 0, 0))), (1, .long (zL x)), (3, .ref (ad (15, g, 0, 0))), (4, .long (zL v30)), (6, .int (zI v33))]) [2, 3, 4, 1, 0] rfl ?_
  exact L35 _ v30 v33  ⟨by omega, by rw [e33, e30, e10]; rfl⟩ (Nat.lt_succ_self _)
set_option maxHeartbeats 4000000 in
set_option maxRecDepth 100000 in
theorem c_X6_digest {l : Launch} {Δ : zDl} {ad : zK → Nat} {P : zP} {S : zS} {X : zMem}  (hP : zWP P) (hW : zWS P S) : zMn l Δ yX6_digest cX6_digest 5 (some .long) 9 0 0 [.ref (ad (0, 0, 0, 0))] ad (mm Δ ad P S X) (zD (some (.long (zL (zdg P S)))) ad (mm Δ ad P S X)) := by
  refine zMn_of (by decide) (Nat.le_of_ble_eq_true rfl) (fun Γ hl hΔ hF => ?_)
  subst hl hΔ
  show G Γ _ _ _ RX6 _ _ _ _ _ [(0, .ref (ad (0, 0, 0, 0)))] []
  have hN := hP.n
  have hS := hW.R
  have hk := hW.k
  have hl := hW.l
  have hd0 := (rfl : zdg P S = zdg P S)
  refine G_ldc2 (pc := 0) cl_288 dX6_digest_0 ?_
  refine G_lstore_ne (pc := 3) 1 (fun zw => [(1, .long (zL zw)), (0, .ref (ad (0, 0, 0, 0)))]) dX6_digest_3 rfl (by decide) (fun _ => rfl) (fun v3 e3 => ?_)
  refine G_lload_n (pc := 4) 1 0 dX6_digest_4 rfl rfl ?_
  refine G_aload_n (pc := 5) 0 1 dX6_digest_5 rfl rfl ?_
  refine G_getf (pc := 6) fl_X6_37 dX6_digest_6 mg_0 rfl ?_
  refine G_i2l (pc := 9) dX6_digest_9 (by first | exact hS _ _ | exact hT _ _ | exact ⟨by omega, by omega⟩ | assumption) ?_
  refine G_callSd (pc := 10) gk_X6_290 dX6_digest_10 (c_X6_mix ) rfl rfl (Nat.le_of_ble_eq_true rfl) ⟨⟨Nat.le_of_ble_eq_true rfl, Nat.le_of_ble_eq_true rfl⟩, Nat.le_of_ble_eq_true rfl, Nat.le_of_ble_eq_true rfl⟩ ?_
  refine G_lstore_ne (pc := 13) 1 (fun zw => [(1, .long (zL zw)), (0, .ref (ad (0, 0, 0, 0)))]) dX6_digest_13 rfl (by decide) (fun _ => rfl) (fun v13 e13 => ?_)
  refine G_lload_n (pc := 14) 1 0 dX6_digest_14 rfl rfl ?_
  refine G_aload_n (pc := 15) 0 1 dX6_digest_15 rfl rfl ?_
  refine G_getf (pc := 16) fl_X6_10 dX6_digest_16 mg_0 rfl ?_
  refine G_callVd (pc := 19) gk_X6_57 dX6_digest_19 mg_4 rfl (c_AL_size_4 ) rfl rfl (Nat.le_of_ble_eq_true rfl) ⟨⟨Nat.le_of_ble_eq_true rfl, Nat.le_of_ble_eq_true rfl⟩, Nat.le_of_ble_eq_true rfl, Nat.le_of_ble_eq_true rfl⟩ ?_
  refine G_i2l (pc := 22) dX6_digest_22 (by first | exact hS _ _ | exact hT _ _ | exact ⟨by omega, by omega⟩ | assumption) ?_
  refine G_callSd (pc := 23) gk_X6_290 dX6_digest_23 (c_X6_mix ) rfl rfl (Nat.le_of_ble_eq_true rfl) ⟨⟨Nat.le_of_ble_eq_true rfl, Nat.le_of_ble_eq_true rfl⟩, Nat.le_of_ble_eq_true rfl, Nat.le_of_ble_eq_true rfl⟩ ?_
  refine G_lstore_ne (pc := 26) 1 (fun zw => [(1, .long (zL zw)), (0, .ref (ad (0, 0, 0, 0)))]) dX6_digest_26 rfl (by decide) (fun _ => rfl) (fun v26 e26 => ?_)
  refine G_lload_n (pc := 27) 1 0 dX6_digest_27 rfl rfl ?_
  refine G_aload_n (pc := 28) 0 1 dX6_digest_28 rfl rfl ?_
  refine G_getf (pc := 29) fl_X6_16 dX6_digest_29 mg_0 rfl ?_
  refine G_callVd (pc := 32) gk_X6_57 dX6_digest_32 mg_6 rfl (c_AL_size_6 ) rfl rfl (Nat.le_of_ble_eq_true rfl) ⟨⟨Nat.le_of_ble_eq_true rfl, Nat.le_of_ble_eq_true rfl⟩, Nat.le_of_ble_eq_true rfl, Nat.le_of_ble_eq_true rfl⟩ ?_
  refine G_i2l (pc := 35) dX6_digest_35 (by first | exact hS _ _ | exact hT _ _ | exact ⟨by omega, by omega⟩ | assumption) ?_
  refine G_callSd (pc := 36) gk_X6_290 dX6_digest_36 (c_X6_mix ) rfl rfl (Nat.le_of_ble_eq_true rfl) ⟨⟨Nat.le_of_ble_eq_true rfl, Nat.le_of_ble_eq_true rfl⟩, Nat.le_of_ble_eq_true rfl, Nat.le_of_ble_eq_true rfl⟩ ?_
  refine G_lstore_ne (pc := 39) 1 (fun zw => [(1, .long (zL zw)), (0, .ref (ad (0, 0, 0, 0)))]) dX6_digest_39 rfl (by decide) (fun _ => rfl) (fun v39 e39 => ?_)
  refine G_lload_n (pc := 40) 1 0 dX6_digest_40 rfl rfl ?_
  refine G_aload_n (pc := 41) 0 1 dX6_digest_41 rfl rfl ?_
  refine G_getf (pc := 42) fl_X6_22 dX6_digest_42 mg_0 rfl ?_
  refine G_getf (pc := 45) fl_X6_266 dX6_digest_45 mg_1 rfl ?_
  refine G_i2l (pc := 48) dX6_digest_48 (by first | exact hS _ _ | exact hT _ _ | exact ⟨by omega, by omega⟩ | assumption) ?_
  refine G_callSd (pc := 49) gk_X6_290 dX6_digest_49 (c_X6_mix ) rfl rfl (Nat.le_of_ble_eq_true rfl) ⟨⟨Nat.le_of_ble_eq_true rfl, Nat.le_of_ble_eq_true rfl⟩, Nat.le_of_ble_eq_true rfl, Nat.le_of_ble_eq_true rfl⟩ ?_
  refine G_lstore_ne (pc := 52) 1 (fun zw => [(1, .long (zL zw)), (0, .ref (ad (0, 0, 0, 0)))]) dX6_digest_52 rfl (by decide) (fun _ => rfl) (fun v52 e52 => ?_)
  refine G_iconst (pc := 53) dX6_digest_53 ?_
  refine G_istore_ne (pc := 54) 3 (fun zw => [(3, .int (zI zw)), (1, .long (zL v52)), (0, .ref (ad (0, 0, 0, 0)))]) dX6_digest_54 rfl (by decide) (fun _ => rfl) (fun v54 e54 => ?_)
  have L55 : ∀ (n : Nat) (d : Int) (t : Int), ((0 ≤ t ∧ t ≤ P 0 0 0) ∧ lp (zxt P S) t (P 0 0 0) d = lp (zxt P S) 0 (P 0 0 0) (zmx (zmx (zmx (zmx 2683 (S (0, 0, 0, 0) 6)) (P 0 0 0)) (P 3 0 0)) (S (1, 0, 0, 0) 1))) → (P 0 0 0 - t).toNat < n → G Γ (zRm 9 0 0) cX6_digest 5 RX6 ad (mm (z_d Γ) ad P S X) 0 0 55 [(0, .ref (ad (0, 0, 0, 0))), (1, .long (zL d)), (3, .int (zI t))] [] := by
    intro n
    induction n with
    | zero => intro d t _ hn; omega
    | succ n ih55 =>
      intro d t hi55 hn55
      refine G_iload_n (pc := 55) 3 2 dX6_digest_55 rfl rfl ?_
      refine G_aload_n (pc := 56) 0 0 dX6_digest_56 rfl rfl ?_
      refine G_getf (pc := 57) fl_X6_10 dX6_digest_57 mg_0 rfl ?_
      refine G_callVd (pc := 60) gk_X6_57 dX6_digest_60 mg_4 rfl (c_AL_size_4 ) rfl rfl (Nat.le_of_ble_eq_true rfl) ⟨⟨Nat.le_of_ble_eq_true rfl, Nat.le_of_ble_eq_true rfl⟩, Nat.le_of_ble_eq_true rfl, Nat.le_of_ble_eq_true rfl⟩ ?_
      refine G_icmp_ge (pc := 63) 88 dX6_digest_63 (by decide) (by first | exact hS _ _ | exact hT _ _ | exact ⟨by omega, by omega⟩ | assumption) (by first | exact hS _ _ | exact hT _ _ | exact ⟨by omega, by omega⟩ | assumption) (fun c63 => ?_) (fun c63 => ?_)
      · refine G_iconst (pc := 88) dX6_digest_88 ?_
        refine G_istore_ne (pc := 89) 3 (fun zw => [(3, .int (zI zw)), (0, .ref (ad (0, 0, 0, 0))), (1, .long (zL d))]) dX6_digest_89 rfl (by decide) (fun _ => rfl) (fun v89 e89 => ?_)
        have L90 : ∀ (n : Nat) (d2 : Int) (g : Int), ((0 ≤ g ∧ g ≤ P 3 0 0) ∧ lp (zxg P S) g (P 3 0 0) d2 = lp (zxg P S) 0 (P 3 0 0) d) → (P 3 0 0 - g).toNat < n → G Γ (zRm 9 0 0) cX6_digest 5 RX6 ad (mm (z_d Γ) ad P S X) 0 0 90 [(0, .ref (ad (0, 0, 0, 0))), (1, .long (zL d2)), (3, .int (zI g))] [] := by
          intro n
          induction n with
          | zero => intro d2 g _ hn; omega
          | succ n ih90 =>
            intro d2 g hi90 hn90
            refine G_iload_n (pc := 90) 3 2 dX6_digest_90 rfl rfl ?_
            refine G_aload_n (pc := 91) 0 0 dX6_digest_91 rfl rfl ?_
            refine G_getf (pc := 92) fl_X6_16 dX6_digest_92 mg_0 rfl ?_
            refine G_callVd (pc := 95) gk_X6_57 dX6_digest_95 mg_6 rfl (c_AL_size_6 ) rfl rfl (Nat.le_of_ble_eq_true rfl) ⟨⟨Nat.le_of_ble_eq_true rfl, Nat.le_of_ble_eq_true rfl⟩, Nat.le_of_ble_eq_true rfl, Nat.le_of_ble_eq_true rfl⟩ ?_
            refine G_icmp_ge (pc := 98) 124 dX6_digest_98 (by decide) (by first | exact hS _ _ | exact hT _ _ | exact ⟨by omega, by omega⟩ | assumption) (by first | exact hS _ _ | exact hT _ _ | exact ⟨by omega, by omega⟩ | assumption) (fun c98 => ?_) (fun c98 => ?_)
            · refine G_iconst (pc := 124) dX6_digest_124 ?_
              refine G_istore_ne (pc := 125) 3 (fun zw => [(3, .int (zI zw)), (0, .ref (ad (0, 0, 0, 0))), (1, .long (zL d2))]) dX6_digest_125 rfl (by decide) (fun _ => rfl) (fun v125 e125 => ?_)
              have L126 : ∀ (n : Nat) (d3 : Int) (g3 : Int), ((0 ≤ g3 ∧ g3 ≤ P 3 0 0) ∧ lp (zxn P S) g3 (P 3 0 0) d3 = lp (zxn P S) 0 (P 3 0 0) d2) → (P 3 0 0 - g3).toNat < n → G Γ (zRm 9 0 0) cX6_digest 5 RX6 ad (mm (z_d Γ) ad P S X) 0 0 126 [(0, .ref (ad (0, 0, 0, 0))), (1, .long (zL d3)), (3, .int (zI g3))] [] := by
                intro n
                induction n with
                | zero => intro d3 g3 _ hn; omega
                | succ n ih126 =>
                  intro d3 g3 hi126 hn126
                  refine G_iload_n (pc := 126) 3 2 dX6_digest_126 rfl rfl ?_
                  refine G_aload_n (pc := 127) 0 0 dX6_digest_127 rfl rfl ?_
                  refine G_getf (pc := 128) fl_X6_16 dX6_digest_128 mg_0 rfl ?_
                  refine G_callVd (pc := 131) gk_X6_57 dX6_digest_131 mg_6 rfl (c_AL_size_6 ) rfl rfl (Nat.le_of_ble_eq_true rfl) ⟨⟨Nat.le_of_ble_eq_true rfl, Nat.le_of_ble_eq_true rfl⟩, Nat.le_of_ble_eq_true rfl, Nat.le_of_ble_eq_true rfl⟩ ?_
                  refine G_icmp_ge (pc := 134) 185 dX6_digest_134 (by decide) (by first | exact hS _ _ | exact hT _ _ | exact ⟨by omega, by omega⟩ | assumption) (by first | exact hS _ _ | exact hT _ _ | exact ⟨by omega, by omega⟩ | assumption) (fun c134 => ?_) (fun c134 => ?_)
                  · refine G_iconst (pc := 185) dX6_digest_185 ?_
                    refine G_istore_ne (pc := 186) 3 (fun zw => [(3, .int (zI zw)), (0, .ref (ad (0, 0, 0, 0))), (1, .long (zL d3))]) dX6_digest_186 rfl (by decide) (fun _ => rfl) (fun v186 e186 => ?_)
                    have L187 : ∀ (n : Nat) (d5 : Int) (k : Int), ((0 ≤ k ∧ k ≤ S (1, 0, 0, 0) 1) ∧ lp (zxl S) k (S (1, 0, 0, 0) 1) d5 = lp (zxl S) 0 (S (1, 0, 0, 0) 1) d3) → (S (1, 0, 0, 0) 1 - k).toNat < n → G Γ (zRm 9 0 0) cX6_digest 5 RX6 ad (mm (z_d Γ) ad P S X) 0 0 187 [(0, .ref (ad (0, 0, 0, 0))), (1, .long (zL d5)), (3, .int (zI k))] [] := by
                      intro n
                      induction n with
                      | zero => intro d5 k _ hn; omega
                      | succ n ih187 =>
                        intro d5 k hi187 hn187
                        refine G_iload_n (pc := 187) 3 2 dX6_digest_187 rfl rfl ?_
                        refine G_aload_n (pc := 188) 0 0 dX6_digest_188 rfl rfl ?_
                        refine G_getf (pc := 189) fl_X6_22 dX6_digest_189 mg_0 rfl ?_
                        refine G_getf (pc := 192) fl_X6_266 dX6_digest_192 mg_1 rfl ?_
                        refine G_icmp_ge (pc := 195) 235 dX6_digest_195 (by decide) (by first | exact hS _ _ | exact hT _ _ | exact ⟨by omega, by omega⟩ | assumption) (by first | exact hS _ _ | exact hT _ _ | exact ⟨by omega, by omega⟩ | assumption) (fun c195 => ?_) (fun c195 => ?_)
                        · refine G_lload_n (pc := 235) 1 1 dX6_digest_235 rfl rfl ?_
                          exact G_lret_d (pc := 236) hF dX6_digest_236 ⟨Nat.le_of_ble_eq_true rfl, Nat.le_of_ble_eq_true rfl⟩ (by have z1 := hi55.2; rw [lp_end (a := t) (by omega)] at z1; have z2 := hi90.2; rw [lp_end (a := g) (by omega)] at z2; have z3 := hi126.2; rw [lp_end (a := g3) (by omega)] at z3; have z4 := hi187.2; rw [lp_end (a := k) (by omega)] at z4; unfold zdg; rw [← z1, ← z2, ← z3, ← z4])
                        · refine G_iconst (pc := 198) dX6_digest_198 ?_
                          refine G_istore_e (pc := 199) (fun zw => [(4, .int (zI zw)), (0, .ref (ad (0, 0, 0, 0))), (1, .long (zL d5)), (3, .int (zI k))]) dX6_digest_199 (by decide) (fun _ => rfl) (fun v199 e199 => ?_)
                          have L201 : ∀ (n : Nat) (d6 : Int) (w : Int), ((0 ≤ w ∧ w ≤ 5) ∧ lp (zxw S k) w 5 d6 = zxl S k d5) → (5 - w).toNat < n → G Γ (zRm 9 0 0) cX6_digest 5 RX6 ad (mm (z_d Γ) ad P S X) 0 0 201 [(0, .ref (ad (0, 0, 0, 0))), (1, .long (zL d6)), (3, .int (zI k)), (4, .int (zI w))] [] := by
                            intro n
                            induction n with
                            | zero => intro d6 w _ hn; omega
                            | succ n ih201 =>
                              intro d6 w hi201 hn201
                              refine G_iload (pc := 201) 3 dX6_digest_201 rfl ?_
                              refine G_iconst (pc := 203) dX6_digest_203 ?_
                              refine G_icmp_gt (pc := 204) 229 dX6_digest_204 (by decide) (by first | exact hS _ _ | exact hT _ _ | exact ⟨by omega, by omega⟩ | assumption) (by first | exact hS _ _ | exact hT _ _ | exact ⟨by omega, by omega⟩ | assumption) (fun c204 => ?_) (fun c204 => ?_)
                              · refine G_iinc_e (pc := 229) 2 (fun zw => [(3, .int (zI zw)), (0, .ref (ad (0, 0, 0, 0))), (1, .long (zL d6)), (4, .int (zI w))]) dX6_digest_229 rfl (by decide) (fun _ => rfl) (fun v229 e229 => ?_)
                                refine G_goto (pc := 232) 187 dX6_digest_232 (by decide) ?_
                                refine G_perm (lv' := [(0, .ref (ad (0, 0, 0, 0))), (1, .long (zL d6)), (3, .int (zI v229))]) [1, 2, 0] rfl ?_
                                exact ih187 d6 v229  ⟨by omega, by rw [e229, ← hi187.2, lp_step (a := k) (n := S (1, 0, 0, 0) 1) (by omega), show zxl S k d5 = d6 by rw [← hi201.2, lp_end (by omega)]]⟩ (by omega)
                              · refine G_lload_n (pc := 207) 1 1 dX6_digest_207 rfl rfl ?_
                                refine G_aload_n (pc := 208) 0 0 dX6_digest_208 rfl rfl ?_
                                refine G_getf (pc := 209) fl_X6_22 dX6_digest_209 mg_0 rfl ?_
                                refine G_iload_n (pc := 212) 3 2 dX6_digest_212 rfl rfl ?_
                                refine G_iload (pc := 213) 3 dX6_digest_213 rfl ?_
                                refine G_callVd (pc := 215) gk_X6_273 dX6_digest_215 mg_1 rfl (c_X1_at (by first | assumption | omega | exact ⟨by omega, by omega⟩ | exact hS _ _ | exact hT _ _) (by first | assumption | omega | exact ⟨by omega, by omega⟩ | exact hS _ _ | exact hT _ _)) rfl rfl (Nat.le_of_ble_eq_true rfl) ⟨⟨Nat.le_of_ble_eq_true rfl, Nat.le_of_ble_eq_true rfl⟩, Nat.le_of_ble_eq_true rfl, Nat.le_of_ble_eq_true rfl⟩ ?_
                                refine G_i2l (pc := 218) dX6_digest_218 (by first | exact hS _ _ | exact hT _ _ | exact ⟨by omega, by omega⟩ | assumption) ?_
                                refine G_callSd (pc := 219) gk_X6_290 dX6_digest_219 (c_X6_mix ) rfl rfl (Nat.le_of_ble_eq_true rfl) ⟨⟨Nat.le_of_ble_eq_true rfl, Nat.le_of_ble_eq_true rfl⟩, Nat.le_of_ble_eq_true rfl, Nat.le_of_ble_eq_true rfl⟩ ?_
                                refine G_lstore_ne (pc := 222) 1 (fun zw => [(1, .long (zL zw)), (0, .ref (ad (0, 0, 0, 0))), (3, .int (zI k)), (4, .int (zI w))]) dX6_digest_222 rfl (by decide) (fun _ => rfl) (fun v222 e222 => ?_)
                                refine G_iinc_e (pc := 223) 3 (fun zw => [(4, .int (zI zw)), (1, .long (zL v222)), (0, .ref (ad (0, 0, 0, 0))), (3, .int (zI k))]) dX6_digest_223 rfl (by decide) (fun _ => rfl) (fun v223 e223 => ?_)
                                refine G_goto (pc := 226) 201 dX6_digest_226 (by decide) ?_
                                refine G_perm (lv' := [(0, .ref (ad (0, 0, 0, 0))), (1, .long (zL v222)), (3, .int (zI k)), (4, .int (zI v223))]) [2, 1, 3, 0] rfl ?_
                                exact ih201 v222 v223  ⟨by omega, by rw [e223, e222, ← hi201.2, lp_step (a := w) (n := 5) (by omega)]; rfl⟩ (by omega)
                          refine G_perm (lv' := [(0, .ref (ad (0, 0, 0, 0))), (1, .long (zL d5)), (3, .int (zI k)), (4, .int (zI v199))]) [1, 2, 3, 0] rfl ?_
                          exact L201 _ d5 v199  ⟨by omega, by rw [e199]; rfl⟩ (Nat.lt_succ_self _)
                    refine G_perm (lv' := [(0, .ref (ad (0, 0, 0, 0))), (1, .long (zL d3)), (3, .int (zI v186))]) [1, 2, 0] rfl ?_
                    exact L187 _ d3 v186  ⟨by omega, by rw [e186]⟩ (Nat.lt_succ_self _)
                  · refine G_iconst (pc := 137) dX6_digest_137 ?_
                    refine G_istore_e (pc := 138) (fun zw => [(4, .int (zI zw)), (0, .ref (ad (0, 0, 0, 0))), (1, .long (zL d3)), (3, .int (zI g3))]) dX6_digest_138 (by decide) (fun _ => rfl) (fun v138 e138 => ?_)
                    have L140 : ∀ (n : Nat) (d4 : Int) (r : Int), ((0 ≤ r ∧ r ≤ 6) ∧ lp (zxr P S g3) r 6 d4 = zxn P S g3 d3) → (6 - r).toNat < n → G Γ (zRm 9 0 0) cX6_digest 5 RX6 ad (mm (z_d Γ) ad P S X) 0 0 140 [(0, .ref (ad (0, 0, 0, 0))), (1, .long (zL d4)), (3, .int (zI g3)), (4, .int (zI r))] [] := by
                      intro n
                      induction n with
                      | zero => intro d4 r _ hn; omega
                      | succ n ih140 =>
                        intro d4 r hi140 hn140
                        refine G_iload (pc := 140) 3 dX6_digest_140 rfl ?_
                        refine G_bipush (pc := 142) dX6_digest_142 (by decide) ?_
                        refine G_icmp_ge (pc := 144) 179 dX6_digest_144 (by decide) (by first | exact hS _ _ | exact hT _ _ | exact ⟨by omega, by omega⟩ | assumption) (by first | exact hS _ _ | exact hT _ _ | exact ⟨by omega, by omega⟩ | assumption) (fun c144 => ?_) (fun c144 => ?_)
                        · refine G_iinc_e (pc := 179) 2 (fun zw => [(3, .int (zI zw)), (0, .ref (ad (0, 0, 0, 0))), (1, .long (zL d4)), (4, .int (zI r))]) dX6_digest_179 rfl (by decide) (fun _ => rfl) (fun v179 e179 => ?_)
                          refine G_goto (pc := 182) 126 dX6_digest_182 (by decide) ?_
                          refine G_perm (lv' := [(0, .ref (ad (0, 0, 0, 0))), (1, .long (zL d4)), (3, .int (zI v179))]) [1, 2, 0] rfl ?_
                          exact ih126 d4 v179  ⟨by omega, by rw [e179, ← hi126.2, lp_step (a := g3) (n := P 3 0 0) (by omega), show zxn P S g3 d3 = d4 by rw [← hi140.2, lp_end (by omega)]]⟩ (by omega)
                        · refine G_lload_n (pc := 147) 1 1 dX6_digest_147 rfl rfl ?_
                          refine G_aload_n (pc := 148) 0 0 dX6_digest_148 rfl rfl ?_
                          refine G_getf (pc := 149) fl_X6_16 dX6_digest_149 mg_0 rfl ?_
                          refine G_iload_n (pc := 152) 3 2 dX6_digest_152 rfl rfl ?_
                          refine G_callVd (pc := 153) gk_X6_111 dX6_digest_153 mg_6 rfl (c_AL_get_6 (by first | assumption | omega | exact ⟨by omega, by omega⟩ | exact hS _ _ | exact hT _ _) (by first | assumption | omega | exact ⟨by omega, by omega⟩ | exact hS _ _ | exact hT _ _)) rfl rfl (Nat.le_of_ble_eq_true rfl) ⟨⟨Nat.le_of_ble_eq_true rfl, Nat.le_of_ble_eq_true rfl⟩, Nat.le_of_ble_eq_true rfl, Nat.le_of_ble_eq_true rfl⟩ ?_
                          refine G_cast (pc := 156) ct_X6_138 dX6_digest_156 (mg_15 (by first | assumption | omega | exact ⟨by omega, by omega⟩ | exact hS _ _ | exact hT _ _)) ?_
                          refine G_iload (pc := 159) 3 dX6_digest_159 rfl ?_
                          refine G_aload_n (pc := 161) 0 0 dX6_digest_161 rfl rfl ?_
                          refine G_getf (pc := 162) fl_X6_37 dX6_digest_162 mg_0 rfl ?_
                          refine G_callVd (pc := 165) gk_X6_201 dX6_digest_165 (mg_15 (by first | assumption | omega | exact ⟨by omega, by omega⟩ | exact hS _ _ | exact hT _ _)) rfl (c_X0_nextPlace (by first | assumption | omega | exact ⟨by omega, by omega⟩ | exact hS _ _ | exact hT _ _) (by first | assumption | omega | exact ⟨by omega, by omega⟩ | exact hS _ _ | exact hT _ _) (by first | assumption | omega | exact ⟨by omega, by omega⟩ | exact hS _ _ | exact hT _ _) (by first | assumption | omega | exact ⟨by omega, by omega⟩ | exact hS _ _ | exact hT _ _) (by first | assumption | omega | exact ⟨by omega, by omega⟩ | exact hS _ _ | exact hT _ _)) rfl rfl (Nat.le_of_ble_eq_true rfl) ⟨⟨Nat.le_of_ble_eq_true rfl, Nat.le_of_ble_eq_true rfl⟩, Nat.le_of_ble_eq_true rfl, Nat.le_of_ble_eq_true rfl⟩ ?_
                          have hz := znp_R hP hW (g := g3) (r := r) (x := S (0, 0, 0, 0) 6) ⟨hi126.1.1, by omega⟩
                          refine G_i2l (pc := 168) dX6_digest_168 (by first | exact hS _ _ | exact hT _ _ | exact ⟨by omega, by omega⟩ | assumption) ?_
                          refine G_callSd (pc := 169) gk_X6_290 dX6_digest_169 (c_X6_mix ) rfl rfl (Nat.le_of_ble_eq_true rfl) ⟨⟨Nat.le_of_ble_eq_true rfl, Nat.le_of_ble_eq_true rfl⟩, Nat.le_of_ble_eq_true rfl, Nat.le_of_ble_eq_true rfl⟩ ?_
                          refine G_lstore_ne (pc := 172) 1 (fun zw => [(1, .long (zL zw)), (0, .ref (ad (0, 0, 0, 0))), (3, .int (zI g3)), (4, .int (zI r))]) dX6_digest_172 rfl (by decide) (fun _ => rfl) (fun v172 e172 => ?_)
                          refine G_iinc_e (pc := 173) 3 (fun zw => [(4, .int (zI zw)), (1, .long (zL v172)), (0, .ref (ad (0, 0, 0, 0))), (3, .int (zI g3))]) dX6_digest_173 rfl (by decide) (fun _ => rfl) (fun v173 e173 => ?_)
                          refine G_goto (pc := 176) 140 dX6_digest_176 (by decide) ?_
                          refine G_perm (lv' := [(0, .ref (ad (0, 0, 0, 0))), (1, .long (zL v172)), (3, .int (zI g3)), (4, .int (zI v173))]) [2, 1, 3, 0] rfl ?_
                          exact ih140 v172 v173  ⟨by omega, by rw [e173, e172, ← hi140.2, lp_step (a := r) (n := 6) (by omega)]; rfl⟩ (by omega)
                    refine G_perm (lv' := [(0, .ref (ad (0, 0, 0, 0))), (1, .long (zL d3)), (3, .int (zI g3)), (4, .int (zI v138))]) [1, 2, 3, 0] rfl ?_
                    exact L140 _ d3 v138  ⟨by omega, by rw [e138]; rfl⟩ (Nat.lt_succ_self _)
              refine G_perm (lv' := [(0, .ref (ad (0, 0, 0, 0))), (1, .long (zL d2)), (3, .int (zI v125))]) [1, 2, 0] rfl ?_
              exact L126 _ d2 v125  ⟨by omega, by rw [e125]⟩ (Nat.lt_succ_self _)
            · refine G_aload_n (pc := 101) 0 0 dX6_digest_101 rfl rfl ?_
              refine G_lload_n (pc := 102) 1 1 dX6_digest_102 rfl rfl ?_
              refine G_aload_n (pc := 103) 0 0 dX6_digest_103 rfl rfl ?_
              refine G_getf (pc := 104) fl_X6_16 dX6_digest_104 mg_0 rfl ?_
              refine G_iload_n (pc := 107) 3 2 dX6_digest_107 rfl rfl ?_
              refine G_callVd (pc := 108) gk_X6_111 dX6_digest_108 mg_6 rfl (c_AL_get_6 (by first | assumption | omega | exact ⟨by omega, by omega⟩ | exact hS _ _ | exact hT _ _) (by first | assumption | omega | exact ⟨by omega, by omega⟩ | exact hS _ _ | exact hT _ _)) rfl rfl (Nat.le_of_ble_eq_true rfl) ⟨⟨Nat.le_of_ble_eq_true rfl, Nat.le_of_ble_eq_true rfl⟩, Nat.le_of_ble_eq_true rfl, Nat.le_of_ble_eq_true rfl⟩ ?_
              refine G_cast (pc := 111) ct_X6_138 dX6_digest_111 (mg_15 (by first | assumption | omega | exact ⟨by omega, by omega⟩ | exact hS _ _ | exact hT _ _)) ?_
              refine G_callVd (pc := 114) gk_X6_298 dX6_digest_114 mg_0 rfl (c_X6_mixGroup (by first | assumption | omega | exact ⟨by omega, by omega⟩ | exact hS _ _ | exact hT _ _) (by first | assumption | omega | exact ⟨by omega, by omega⟩ | exact hS _ _ | exact hT _ _) (by first | assumption | omega | exact ⟨by omega, by omega⟩ | exact hS _ _ | exact hT _ _)) rfl rfl (Nat.le_of_ble_eq_true rfl) ⟨⟨Nat.le_of_ble_eq_true rfl, Nat.le_of_ble_eq_true rfl⟩, Nat.le_of_ble_eq_true rfl, Nat.le_of_ble_eq_true rfl⟩ ?_
              refine G_lstore_ne (pc := 117) 1 (fun zw => [(1, .long (zL zw)), (0, .ref (ad (0, 0, 0, 0))), (3, .int (zI g))]) dX6_digest_117 rfl (by decide) (fun _ => rfl) (fun v117 e117 => ?_)
              refine G_iinc_e (pc := 118) 2 (fun zw => [(3, .int (zI zw)), (1, .long (zL v117)), (0, .ref (ad (0, 0, 0, 0)))]) dX6_digest_118 rfl (by decide) (fun _ => rfl) (fun v118 e118 => ?_)
              refine G_goto (pc := 121) 90 dX6_digest_121 (by decide) ?_
              refine G_perm (lv' := [(0, .ref (ad (0, 0, 0, 0))), (1, .long (zL v117)), (3, .int (zI v118))]) [2, 1, 0] rfl ?_
              exact ih90 v117 v118  ⟨by omega, by rw [e118, e117, ← hi90.2, lp_step (a := g) (n := P 3 0 0) (by omega)]⟩ (by omega)
        refine G_perm (lv' := [(0, .ref (ad (0, 0, 0, 0))), (1, .long (zL d)), (3, .int (zI v89))]) [1, 2, 0] rfl ?_
        exact L90 _ d v89  ⟨by omega, by rw [e89]⟩ (Nat.lt_succ_self _)
      · refine G_lload_n (pc := 66) 1 1 dX6_digest_66 rfl rfl ?_
        refine G_aload_n (pc := 67) 0 0 dX6_digest_67 rfl rfl ?_
        refine G_getf (pc := 68) fl_X6_10 dX6_digest_68 mg_0 rfl ?_
        refine G_iload_n (pc := 71) 3 2 dX6_digest_71 rfl rfl ?_
        refine G_callVd (pc := 72) gk_X6_111 dX6_digest_72 mg_4 rfl (c_AL_get_4 (by first | assumption | omega | exact ⟨by omega, by omega⟩ | exact hS _ _ | exact hT _ _) (by first | assumption | omega | exact ⟨by omega, by omega⟩ | exact hS _ _ | exact hT _ _)) rfl rfl (Nat.le_of_ble_eq_true rfl) ⟨⟨Nat.le_of_ble_eq_true rfl, Nat.le_of_ble_eq_true rfl⟩, Nat.le_of_ble_eq_true rfl, Nat.le_of_ble_eq_true rfl⟩ ?_
        refine G_cast (pc := 75) ct_X6_66 dX6_digest_75 (mg_8 (by first | assumption | omega | exact ⟨by omega, by omega⟩ | exact hS _ _ | exact hT _ _)) ?_
        refine G_callSd (pc := 78) gk_X6_294 dX6_digest_78 (c_X6_mixTopic (by first | assumption | omega | exact ⟨by omega, by omega⟩ | exact hS _ _ | exact hT _ _) (by first | assumption | omega | exact ⟨by omega, by omega⟩ | exact hS _ _ | exact hT _ _) (by first | assumption | omega | exact ⟨by omega, by omega⟩ | exact hS _ _ | exact hT _ _)) rfl rfl (Nat.le_of_ble_eq_true rfl) ⟨⟨Nat.le_of_ble_eq_true rfl, Nat.le_of_ble_eq_true rfl⟩, Nat.le_of_ble_eq_true rfl, Nat.le_of_ble_eq_true rfl⟩ ?_
        refine G_lstore_ne (pc := 81) 1 (fun zw => [(1, .long (zL zw)), (0, .ref (ad (0, 0, 0, 0))), (3, .int (zI t))]) dX6_digest_81 rfl (by decide) (fun _ => rfl) (fun v81 e81 => ?_)
        refine G_iinc_e (pc := 82) 2 (fun zw => [(3, .int (zI zw)), (1, .long (zL v81)), (0, .ref (ad (0, 0, 0, 0)))]) dX6_digest_82 rfl (by decide) (fun _ => rfl) (fun v82 e82 => ?_)
        refine G_goto (pc := 85) 55 dX6_digest_85 (by decide) ?_
        refine G_perm (lv' := [(0, .ref (ad (0, 0, 0, 0))), (1, .long (zL v81)), (3, .int (zI v82))]) [2, 1, 0] rfl ?_
        exact ih55 v81 v82  ⟨by omega, by rw [e82, e81, ← hi55.2, lp_step (a := t) (n := P 0 0 0) (by omega)]⟩ (by omega)
  refine G_perm (lv' := [(0, .ref (ad (0, 0, 0, 0))), (1, .long (zL v52)), (3, .int (zI v54))]) [2, 1, 0] rfl ?_
  exact L55 _ v52 v54  ⟨by omega, by rw [e54, e52, e39, e26, e13, e3]⟩ (Nat.lt_succ_self _)
