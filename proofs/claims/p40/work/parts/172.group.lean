set_option maxHeartbeats 4000000 in
set_option maxRecDepth 100000 in
theorem c_X4_giveBack {l : Launch} {Δ : zDl} {ad : zK → Nat} {P : zP} {S : zS} {X : zMem} {g p o x y : Int} (hg : 0 ≤ g ∧ g < P 3 0 0) (hp : 0 ≤ p ∧ p < P 1 (P 4 g 0) 0) (ho : 0 ≤ o ∧ o < 80) (hW : zWS P S) (hx : 0 ≤ x ∧ x ≤ 9999) (hy : 1 ≤ y ∧ y ≤ 20) (h1 : 1 ≤ S (20, g, p, 0) o) : zMn l Δ yX4_giveBack cX4_giveBack 4 (some .int) 1 0 0 [.ref (ad (18, g, p, 0)), .int (zI o), .int (zI x), .int (zI y)] ad (mm Δ ad P S X) (zD (some (.int (zI (zgbr S g p o x y)))) ad (mm Δ ad P (zgb S g p o x y) X)) := by
  refine zMn_of (by decide) (Nat.le_of_ble_eq_true rfl) (fun Γ hl hΔ hF => ?_)
  subst hl hΔ
  show G Γ _ _ _ RX4 _ _ _ _ _ [(0, .ref (ad (18, g, p, 0))), (1, .int (zI o)), (2, .int (zI x)), (3, .int (zI y))] []
  have hS := hW.R
  have hc := hW.c g p o
  refine G_aload_n (pc := 0) 0 0 dX4_giveBack_0 rfl rfl ?_
  refine G_getf (pc := 1) fl_X4_15 dX4_giveBack_1 (mg_18 (by first | assumption | omega | exact ⟨by omega, by omega⟩ | exact hS _ _ | exact hT _ _)) rfl ?_
  refine G_iload_n (pc := 4) 1 1 dX4_giveBack_4 rfl rfl ?_
  refine G_iald (pc := 5) dX4_giveBack_5 (mg_20 (by first | assumption | omega | exact ⟨by omega, by omega⟩ | exact hS _ _ | exact hT _ _)) ⟨by omega, by omega, by omega, by omega⟩ ?_
  refine G_iconst (pc := 6) dX4_giveBack_6 ?_
  refine G_icmp_lt (pc := 7) 19 dX4_giveBack_7 (by decide) (by first | exact hS _ _ | exact hT _ _ | exact ⟨by omega, by omega⟩ | assumption) (by first | exact hS _ _ | exact hT _ _ | exact ⟨by omega, by omega⟩ | assumption) (fun c7 => ?_) (fun c7 => ?_)
  · refine G_aload_n (pc := 19) 0 0 dX4_giveBack_19 rfl rfl ?_
    refine G_getf (pc := 20) fl_X4_9 dX4_giveBack_20 (mg_18 (by first | assumption | omega | exact ⟨by omega, by omega⟩ | exact hS _ _ | exact hT _ _)) rfl ?_
    refine G_iload_n (pc := 23) 1 1 dX4_giveBack_23 rfl rfl ?_
    refine G_iconst (pc := 24) dX4_giveBack_24 ?_
    refine G_iast (pc := 25) dX4_giveBack_25 (mg_19 (by first | assumption | omega | exact ⟨by omega, by omega⟩ | exact hS _ _ | exact hT _ _)) ⟨by omega, by omega, by omega, by omega⟩ (mp_19 _ _ (by first | assumption | omega | exact ⟨by omega, by omega⟩ | exact hS _ _ | exact hT _ _)) ?_
    refine G_name (fun S1_25 hS1_25 => ?_)
    refine G_aload_n (pc := 26) 0 0 dX4_giveBack_26 rfl rfl ?_
    refine G_getf (pc := 27) fl_X4_18 dX4_giveBack_27 (mg_18 (by first | assumption | omega | exact ⟨by omega, by omega⟩ | exact hS _ _ | exact hT _ _)) rfl ?_
    have hz0 : S1_25 (20, g, p, 0) o = S (20, g, p, 0) o := by rw [hS1_25]; exact zst_k _ _ _ _ (by simp)
    refine G_iload_n (pc := 30) 1 1 dX4_giveBack_30 rfl rfl ?_
    refine G_iload_n (pc := 31) 2 2 dX4_giveBack_31 rfl rfl ?_
    refine G_iload_n (pc := 32) 3 3 dX4_giveBack_32 rfl rfl ?_
    refine G_aload_n (pc := 33) 0 0 dX4_giveBack_33 rfl rfl ?_
    refine G_getf (pc := 34) fl_X4_15 dX4_giveBack_34 (mg_18 (by first | assumption | omega | exact ⟨by omega, by omega⟩ | exact hS _ _ | exact hT _ _)) rfl ?_
    refine G_iload_n (pc := 37) 1 1 dX4_giveBack_37 rfl rfl ?_
    refine G_iald (pc := 38) dX4_giveBack_38 (mg_20 (by first | assumption | omega | exact ⟨by omega, by omega⟩ | exact hS _ _ | exact hT _ _)) ⟨by omega, by omega, by omega, by omega⟩ ?_
    refine G_iconst (pc := 39) dX4_giveBack_39 ?_
    refine G_isub (pc := 40) dX4_giveBack_40 ?_
    refine G_ishl (pc := 41) dX4_giveBack_41 (by omega) ?_
    refine G_iadd (pc := 42) dX4_giveBack_42 ?_
    refine G_iast (pc := 43) dX4_giveBack_43 (mg_21 (by first | assumption | omega | exact ⟨by omega, by omega⟩ | exact hS _ _ | exact hT _ _)) ⟨by omega, by omega, by omega, by omega⟩ (mp_21 _ _ (by first | assumption | omega | exact ⟨by omega, by omega⟩ | exact hS _ _ | exact hT _ _)) ?_
    refine G_name (fun S2_43 hS2_43 => ?_)
    refine G_aload_n (pc := 44) 0 0 dX4_giveBack_44 rfl rfl ?_
    refine G_getf (pc := 45) fl_X4_18 dX4_giveBack_45 (mg_18 (by first | assumption | omega | exact ⟨by omega, by omega⟩ | exact hS _ _ | exact hT _ _)) rfl ?_
    refine G_iload_n (pc := 48) 1 1 dX4_giveBack_48 rfl rfl ?_
    refine G_iald (pc := 49) dX4_giveBack_49 (mg_21 (by first | assumption | omega | exact ⟨by omega, by omega⟩ | exact hS _ _ | exact hT _ _)) ⟨by omega, by omega, by omega, by omega⟩ ?_
    have hz1 : S2_43 = zgb S g p o x y := by rw [hS2_43, hz0, hS1_25]; exact (if_neg (by omega)).symm
    exact G_iret_m (pc := 50) hF dX4_giveBack_50 ⟨Nat.le_of_ble_eq_true rfl, Nat.le_of_ble_eq_true rfl⟩ (by rw [hS2_43, zst_s, hz0]; unfold zgbr; rw [if_neg (by omega)]) (by rw [hz1])
  · refine G_aload_n (pc := 10) 0 0 dX4_giveBack_10 rfl rfl ?_
    refine G_getf (pc := 11) fl_X4_9 dX4_giveBack_11 (mg_18 (by first | assumption | omega | exact ⟨by omega, by omega⟩ | exact hS _ _ | exact hT _ _)) rfl ?_
    refine G_iload_n (pc := 14) 1 1 dX4_giveBack_14 rfl rfl ?_
    refine G_iconst (pc := 15) dX4_giveBack_15 ?_
    refine G_iast (pc := 16) dX4_giveBack_16 (mg_19 (by first | assumption | omega | exact ⟨by omega, by omega⟩ | exact hS _ _ | exact hT _ _)) ⟨by omega, by omega, by omega, by omega⟩ (mp_19 _ _ (by first | assumption | omega | exact ⟨by omega, by omega⟩ | exact hS _ _ | exact hT _ _)) ?_
    refine G_name (fun S3_16 hS3_16 => ?_)
    refine G_iconst (pc := 17) dX4_giveBack_17 ?_
    exact G_iret_m (pc := 18) hF dX4_giveBack_18 ⟨Nat.le_of_ble_eq_true rfl, Nat.le_of_ble_eq_true rfl⟩ (by unfold zgbr; rw [if_pos (by omega)]) (by rw [hS3_16]; unfold zgb; rw [if_pos (by omega)])
set_option maxHeartbeats 4000000 in
set_option maxRecDepth 100000 in
theorem c_X0_isInWith {l : Launch} {Δ : zDl} {ad : zK → Nat} {P : zP} {S : zS} {X : zMem} {g x c : Int} (hg : 0 ≤ g ∧ g < P 3 0 0) (hS : ∀ k f, zR (S k f)) (hx : 0 ≤ x ∧ x < 6) (hc : zR c) : zMn l Δ yX0_isInWith cX0_isInWith 3 (some .boolean) 1 0 0 [.ref (ad (15, g, 0, 0)), .int (zI x), .int (zI c)] ad (mm Δ ad P S X) (zD (some (.int (zI (if zin S g x c then 1 else 0)))) ad (mm Δ ad P S X)) := by
  refine zMn_of (by decide) (Nat.le_of_ble_eq_true rfl) (fun Γ hl hΔ hF => ?_)
  subst hl hΔ
  show G Γ _ _ _ RX0 _ _ _ _ _ [(0, .ref (ad (15, g, 0, 0))), (1, .int (zI x)), (2, .int (zI c))] []
  refine G_aload_n (pc := 0) 0 0 dX0_isInWith_0 rfl rfl ?_
  refine G_getf (pc := 1) fl_X0_9 dX0_isInWith_1 (mg_15 (by first | assumption | omega | exact ⟨by omega, by omega⟩ | exact hS _ _ | exact hT _ _)) rfl ?_
  refine G_iload_n (pc := 4) 1 1 dX0_isInWith_4 rfl rfl ?_
  refine G_zald (pc := 5) dX0_isInWith_5 (mg_17 (by first | assumption | omega | exact ⟨by omega, by omega⟩ | exact hS _ _ | exact hT _ _)) ⟨by omega, by omega, by omega, by omega⟩ ?_
  refine G_iload_n (pc := 6) 1 1 dX0_isInWith_6 rfl rfl ?_
  refine G_iload_n (pc := 7) 2 2 dX0_isInWith_7 rfl rfl ?_
  refine G_icmp_ne (pc := 8) 15 dX0_isInWith_8 (by decide) (by first | exact hS _ _ | exact hT _ _ | exact ⟨by omega, by omega⟩ | assumption) (by first | exact hS _ _ | exact hT _ _ | exact ⟨by omega, by omega⟩ | assumption) (fun c8 => ?_) (fun c8 => ?_)
  · refine G_iconst (pc := 15) dX0_isInWith_15 ?_
    refine G_icmp_eq (pc := 16) 23 dX0_isInWith_16 (by decide) (by first | exact hS _ _ | exact hT _ _ | exact ⟨by omega, by omega⟩ | assumption) (by first | exact hS _ _ | exact hT _ _ | exact ⟨by omega, by omega⟩ | assumption) (fun c16 => ?_) (fun c16 => ?_)
    · refine G_iconst (pc := 23) dX0_isInWith_23 ?_
      exact G_zret_d (pc := 24) hF dX0_isInWith_24 ⟨Nat.le_of_ble_eq_true rfl, Nat.le_of_ble_eq_true rfl⟩ (by first | exact zb_ite | omega) (by first | (simp [zin, c8, c16]; done) | (subst c8; simp [zin, c16]))
    · refine G_iconst (pc := 19) dX0_isInWith_19 ?_
      refine G_goto (pc := 20) 24 dX0_isInWith_20 (by decide) ?_
      exact G_zret_d (pc := 24) hF dX0_isInWith_24 ⟨Nat.le_of_ble_eq_true rfl, Nat.le_of_ble_eq_true rfl⟩ (by first | exact zb_ite | omega) (by first | (simp [zin, c8, c16]; done) | (subst c8; simp [zin, c16]))
  · refine G_iconst (pc := 11) dX0_isInWith_11 ?_
    refine G_goto (pc := 12) 16 dX0_isInWith_12 (by decide) ?_
    refine G_icmp_eq (pc := 16) 23 dX0_isInWith_16 (by decide) (by first | exact hS _ _ | exact hT _ _ | exact ⟨by omega, by omega⟩ | assumption) (by first | exact hS _ _ | exact hT _ _ | exact ⟨by omega, by omega⟩ | assumption) (fun c16 => ?_) (fun c16 => ?_)
    · refine G_iconst (pc := 23) dX0_isInWith_23 ?_
      exact G_zret_d (pc := 24) hF dX0_isInWith_24 ⟨Nat.le_of_ble_eq_true rfl, Nat.le_of_ble_eq_true rfl⟩ (by first | exact zb_ite | omega) (by first | (simp [zin, c8, c16]; done) | (subst c8; simp [zin, c16]))
    · refine G_iconst (pc := 19) dX0_isInWith_19 ?_
      refine G_goto (pc := 20) 24 dX0_isInWith_20 (by decide) ?_
      exact G_zret_d (pc := 24) hF dX0_isInWith_24 ⟨Nat.le_of_ble_eq_true rfl, Nat.le_of_ble_eq_true rfl⟩ (by first | exact zb_ite | omega) (by first | (simp [zin, c8, c16]; done) | (subst c8; simp [zin, c16]))
set_option maxHeartbeats 4000000 in
set_option maxRecDepth 100000 in
theorem c_X0_countReaders {l : Launch} {Δ : zDl} {ad : zK → Nat} {P : zP} {S : zS} {X : zMem} {g c : Int} (hg : 0 ≤ g ∧ g < P 3 0 0) (hS : ∀ k f, zR (S k f)) (hc : zR c) : zMn l Δ yX0_countReaders cX0_countReaders 4 (some .int) 2 0 0 [.ref (ad (15, g, 0, 0)), .int (zI c)] ad (mm Δ ad P S X) (zD (some (.int (zI (zcr S g c)))) ad (mm Δ ad P S X)) := by
  refine zMn_of (by decide) (Nat.le_of_ble_eq_true rfl) (fun Γ hl hΔ hF => ?_)
  subst hl hΔ
  show G Γ _ _ _ RX0 _ _ _ _ _ [(0, .ref (ad (15, g, 0, 0))), (1, .int (zI c))] []
  refine G_iconst (pc := 0) dX0_countReaders_0 ?_
  refine G_istore_ne (pc := 1) 2 (fun zw => [(2, .int (zI zw)), (0, .ref (ad (15, g, 0, 0))), (1, .int (zI c))]) dX0_countReaders_1 rfl (by decide) (fun _ => rfl) (fun v1 e1 => ?_)
  refine G_iconst (pc := 2) dX0_countReaders_2 ?_
  refine G_istore_ne (pc := 3) 3 (fun zw => [(3, .int (zI zw)), (2, .int (zI v1)), (0, .ref (ad (15, g, 0, 0))), (1, .int (zI c))]) dX0_countReaders_3 rfl (by decide) (fun _ => rfl) (fun v3 e3 => ?_)
  have L4 : ∀ (n : Nat) (m : Int) (k : Int), ((0 ≤ k ∧ k ≤ 6) ∧ m + sm (fun r => if zin S g r c then 1 else 0) k 6 = zcr S g c) → (6 - k).toNat < n → G Γ (zRm 2 0 0) cX0_countReaders 4 RX0 ad (mm (z_d Γ) ad P S X) 0 0 4 [(0, .ref (ad (15, g, 0, 0))), (1, .int (zI c)), (2, .int (zI m)), (3, .int (zI k))] [] := by
    intro n
    induction n with
    | zero => intro m k _ hn; omega
    | succ n ih4 =>
      intro m k hi4 hn4
      refine G_iload_n (pc := 4) 3 3 dX0_countReaders_4 rfl rfl ?_
      refine G_bipush (pc := 5) dX0_countReaders_5 (by decide) ?_
      refine G_icmp_ge (pc := 7) 28 dX0_countReaders_7 (by decide) (by first | exact hS _ _ | exact hT _ _ | exact ⟨by omega, by omega⟩ | assumption) (by first | exact hS _ _ | exact hT _ _ | exact ⟨by omega, by omega⟩ | assumption) (fun c7 => ?_) (fun c7 => ?_)
      · refine G_iload_n (pc := 28) 2 2 dX0_countReaders_28 rfl rfl ?_
        exact G_iret_d (pc := 29) hF dX0_countReaders_29 ⟨Nat.le_of_ble_eq_true rfl, Nat.le_of_ble_eq_true rfl⟩ (by rw [← hi4.2, sm_end (by omega)]; omega)
      · refine G_aload_n (pc := 10) 0 0 dX0_countReaders_10 rfl rfl ?_
        refine G_iload_n (pc := 11) 3 3 dX0_countReaders_11 rfl rfl ?_
        refine G_iload_n (pc := 12) 1 1 dX0_countReaders_12 rfl rfl ?_
        refine G_callVd (pc := 13) gk_X0_42 dX0_countReaders_13 (mg_15 (by first | assumption | omega | exact ⟨by omega, by omega⟩ | exact hS _ _ | exact hT _ _)) rfl (c_X0_isInWith (by first | assumption | omega | exact ⟨by omega, by omega⟩ | exact hS _ _ | exact hT _ _) (by first | assumption | omega | exact ⟨by omega, by omega⟩ | exact hS _ _ | exact hT _ _) (by first | assumption | omega | exact ⟨by omega, by omega⟩ | exact hS _ _ | exact hT _ _) (by first | assumption | omega | exact ⟨by omega, by omega⟩ | exact hS _ _ | exact hT _ _)) rfl rfl (Nat.le_of_ble_eq_true rfl) ⟨⟨Nat.le_of_ble_eq_true rfl, Nat.le_of_ble_eq_true rfl⟩, Nat.le_of_ble_eq_true rfl, Nat.le_of_ble_eq_true rfl⟩ ?_
        refine G_if_eq_b (pc := 16) 22 dX0_countReaders_16 (by decide) (fun c16 => ?_) (fun c16 => ?_)
        · refine G_iinc_e (pc := 22) 3 (fun zw => [(3, .int (zI zw)), (0, .ref (ad (15, g, 0, 0))), (1, .int (zI c)), (2, .int (zI m))]) dX0_countReaders_22 rfl (by decide) (fun _ => rfl) (fun v22 e22 => ?_)
          refine G_goto (pc := 25) 4 dX0_countReaders_25 (by decide) ?_
          refine G_perm (lv' := [(0, .ref (ad (15, g, 0, 0))), (1, .int (zI c)), (2, .int (zI m)), (3, .int (zI v22))]) [1, 2, 3, 0] rfl ?_
          exact ih4 m v22  ⟨by omega, by rw [← hi4.2, sm_step (a := k) (n := 6) (by omega), e22]; first | (rw [if_pos c16]; omega) | (rw [if_neg c16]; omega)⟩ (by omega)
        · refine G_iinc_e (pc := 19) 2 (fun zw => [(2, .int (zI zw)), (0, .ref (ad (15, g, 0, 0))), (1, .int (zI c)), (3, .int (zI k))]) dX0_countReaders_19 rfl (by decide) (fun _ => rfl) (fun v19 e19 => ?_)
          refine G_iinc_e (pc := 22) 3 (fun zw => [(3, .int (zI zw)), (2, .int (zI v19)), (0, .ref (ad (15, g, 0, 0))), (1, .int (zI c))]) dX0_countReaders_22 rfl (by decide) (fun _ => rfl) (fun v22 e22 => ?_)
          refine G_goto (pc := 25) 4 dX0_countReaders_25 (by decide) ?_
          refine G_perm (lv' := [(0, .ref (ad (15, g, 0, 0))), (1, .int (zI c)), (2, .int (zI v19)), (3, .int (zI v22))]) [2, 3, 1, 0] rfl ?_
          exact ih4 v19 v22  ⟨by omega, by rw [← hi4.2, sm_step (a := k) (n := 6) (by omega), e22]; first | (rw [if_pos c16]; omega) | (rw [if_neg c16]; omega)⟩ (by omega)
  refine G_perm (lv' := [(0, .ref (ad (15, g, 0, 0))), (1, .int (zI c)), (2, .int (zI v1)), (3, .int (zI v3))]) [2, 3, 1, 0] rfl ?_
  exact L4 _ v1 v3  ⟨by omega, by subst e1 e3; exact Int.zero_add _⟩ (Nat.lt_succ_self _)
set_option maxHeartbeats 4000000 in
set_option maxRecDepth 100000 in
theorem c_X0_sharer {l : Launch} {Δ : zDl} {ad : zK → Nat} {P : zP} {S : zS} {X : zMem} {g p c : Int} (hP : zWP P) (hg : 0 ≤ g ∧ g < P 3 0 0) (hS : ∀ k f, zR (S k f)) (hp : 0 ≤ p ∧ p < P 1 (P 4 g 0) 0) (hc : zR c) : zMn l Δ yX0_sharer cX0_sharer 9 (some .int) 3 0 0 [.ref (ad (15, g, 0, 0)), .int (zI p), .int (zI c)] ad (mm Δ ad P S X) (zD (some (.int (zI (zsr P S g p c)))) ad (mm Δ ad P S X)) := by
  refine zMn_of (by decide) (Nat.le_of_ble_eq_true rfl) (fun Γ hl hΔ hF => ?_)
  subst hl hΔ
  show G Γ _ _ _ RX0 _ _ _ _ _ [(0, .ref (ad (15, g, 0, 0))), (1, .int (zI p)), (2, .int (zI c))] []
  have hG := hP.g hg
  have hN := hP.t hG
  have hcr := zcr_le (S := S) (g := g) (c := c)
  have hcN : ((P 1 (P 4 g 0) 0).toNat : Int) = P 1 (P 4 g 0) 0 := Int.toNat_of_nonneg (by omega)
  refine G_aload_n (pc := 0) 0 0 dX0_sharer_0 rfl rfl ?_
  refine G_iload_n (pc := 1) 2 2 dX0_sharer_1 rfl rfl ?_
  refine G_callVd (pc := 2) gk_X0_38 dX0_sharer_2 (mg_15 (by first | assumption | omega | exact ⟨by omega, by omega⟩ | exact hS _ _ | exact hT _ _)) rfl (c_X0_countReaders (by first | assumption | omega | exact ⟨by omega, by omega⟩ | exact hS _ _ | exact hT _ _) (by first | assumption | omega | exact ⟨by omega, by omega⟩ | exact hS _ _ | exact hT _ _) (by first | assumption | omega | exact ⟨by omega, by omega⟩ | exact hS _ _ | exact hT _ _)) rfl rfl (Nat.le_of_ble_eq_true rfl) ⟨⟨Nat.le_of_ble_eq_true rfl, Nat.le_of_ble_eq_true rfl⟩, Nat.le_of_ble_eq_true rfl, Nat.le_of_ble_eq_true rfl⟩ ?_
  refine G_istore_ne (pc := 5) 3 (fun zw => [(3, .int (zI zw)), (0, .ref (ad (15, g, 0, 0))), (1, .int (zI p)), (2, .int (zI c))]) dX0_sharer_5 rfl (by decide) (fun _ => rfl) (fun v5 e5 => ?_)
  refine G_iload_n (pc := 6) 3 0 dX0_sharer_6 rfl rfl ?_
  refine G_if_ne (pc := 7) 12 dX0_sharer_7 (by decide) (by first | exact hS _ _ | exact hT _ _ | exact ⟨by omega, by omega⟩ | assumption) (fun c7 => ?_) (fun c7 => ?_)
  · refine G_aload_n (pc := 12) 0 1 dX0_sharer_12 rfl rfl ?_
    refine G_getf (pc := 13) fl_X0_23 dX0_sharer_13 (mg_15 (by first | assumption | omega | exact ⟨by omega, by omega⟩ | exact hS _ _ | exact hT _ _)) rfl ?_
    refine G_alen (pc := 16) (t := 3) rfl dX0_sharer_16 (mg_16 (by first | assumption | omega | exact ⟨by omega, by omega⟩ | exact hS _ _ | exact hT _ _)) ?_
    refine G_iload_n (pc := 17) 3 0 dX0_sharer_17 rfl rfl ?_
    refine G_idiv (pc := 18) dX0_sharer_18 ⟨by omega, by omega, by omega⟩ ⟨by omega, by omega, by omega⟩ ?_
    refine G_istore_e (pc := 19) (fun zw => [(4, .int (zI zw)), (3, .int (zI v5)), (0, .ref (ad (15, g, 0, 0))), (1, .int (zI p)), (2, .int (zI c))]) dX0_sharer_19 (by decide) (fun _ => rfl) (fun v19 e19 => ?_)
    refine G_aload_n (pc := 21) 0 2 dX0_sharer_21 rfl rfl ?_
    refine G_getf (pc := 22) fl_X0_23 dX0_sharer_22 (mg_15 (by first | assumption | omega | exact ⟨by omega, by omega⟩ | exact hS _ _ | exact hT _ _)) rfl ?_
    refine G_alen (pc := 25) (t := 3) rfl dX0_sharer_25 (mg_16 (by first | assumption | omega | exact ⟨by omega, by omega⟩ | exact hS _ _ | exact hT _ _)) ?_
    refine G_iload_n (pc := 26) 3 1 dX0_sharer_26 rfl rfl ?_
    refine G_irem (pc := 27) dX0_sharer_27 ⟨by omega, by omega, by omega⟩ ⟨by omega, by omega, by omega⟩ ?_
    refine G_istore_e (pc := 28) (fun zw => [(5, .int (zI zw)), (4, .int (zI v19)), (3, .int (zI v5)), (0, .ref (ad (15, g, 0, 0))), (1, .int (zI p)), (2, .int (zI c))]) dX0_sharer_28 (by decide) (fun _ => rfl) (fun v28 e28 => ?_)
    have h19 : 0 ≤ v19 ∧ v19 ≤ 4 := by rw [e19, hcN]; exact ⟨Int.ediv_nonneg (by omega) (by omega), Int.le_trans (Int.ediv_le_self _ (by omega)) (by omega)⟩
    have h28 : 0 ≤ v28 ∧ v28 < v5 := by rw [e28, hcN]; exact ⟨Int.emod_nonneg _ (by omega), Int.emod_lt_of_pos _ (by omega)⟩
    have hz9 : zsr P S g p c = zsN S g c p v19 v28 6 0 0 0 := by unfold zsr; rw [if_neg (by omega), e28, e19, hcN, e5]
    refine G_iconst (pc := 30) dX0_sharer_30 ?_
    refine G_istore_e (pc := 31) (fun zw => [(6, .int (zI zw)), (5, .int (zI v28)), (4, .int (zI v19)), (3, .int (zI v5)), (0, .ref (ad (15, g, 0, 0))), (1, .int (zI p)), (2, .int (zI c))]) dX0_sharer_31 (by decide) (fun _ => rfl) (fun v31 e31 => ?_)
    refine G_iconst (pc := 33) dX0_sharer_33 ?_
    refine G_istore_e (pc := 34) (fun zw => [(7, .int (zI zw)), (6, .int (zI v31)), (5, .int (zI v28)), (4, .int (zI v19)), (3, .int (zI v5)), (0, .ref (ad (15, g, 0, 0))), (1, .int (zI p)), (2, .int (zI c))]) dX0_sharer_34 (by decide) (fun _ => rfl) (fun v34 e34 => ?_)
    refine G_iconst (pc := 36) dX0_sharer_36 ?_
    refine G_istore_e (pc := 37) (fun zw => [(8, .int (zI zw)), (7, .int (zI v34)), (6, .int (zI v31)), (5, .int (zI v28)), (4, .int (zI v19)), (3, .int (zI v5)), (0, .ref (ad (15, g, 0, 0))), (1, .int (zI p)), (2, .int (zI c))]) dX0_sharer_37 (by decide) (fun _ => rfl) (fun v37 e37 => ?_)
    have L39 : ∀ (n : Nat) (s : Int) (k : Int) (r : Int), (((0 ≤ r ∧ r ≤ 6) ∧ (0 ≤ k ∧ k ≤ r) ∧ (0 ≤ s ∧ s ≤ 5 * r)) ∧ zsN S g c p v19 v28 (6 - r).toNat r s k = zsN S g c p v19 v28 6 0 0 0) → (6 - r).toNat < n → G Γ (zRm 3 0 0) cX0_sharer 9 RX0 ad (mm (z_d Γ) ad P S X) 0 0 39 [(0, .ref (ad (15, g, 0, 0))), (1, .int (zI p)), (2, .int (zI c)), (3, .int (zI v5)), (4, .int (zI v19)), (5, .int (zI v28)), (6, .int (zI s)), (7, .int (zI k)), (8, .int (zI r))] [] := by
      intro n
      induction n with
      | zero => intro s k r _ hn; omega
      | succ n ih39 =>
        intro s k r hi39 hn39
        refine G_iload (pc := 39) 8 dX0_sharer_39 rfl ?_
        refine G_bipush (pc := 41) dX0_sharer_41 (by decide) ?_
        refine G_icmp_ge (pc := 43) 95 dX0_sharer_43 (by decide) (by first | exact hS _ _ | exact hT _ _ | exact ⟨by omega, by omega⟩ | assumption) (by first | exact hS _ _ | exact hT _ _ | exact ⟨by omega, by omega⟩ | assumption) (fun c43 => ?_) (fun c43 => ?_)
        · refine G_iconst (pc := 95) dX0_sharer_95 ?_
          exact G_iret_d (pc := 96) hF dX0_sharer_96 ⟨Nat.le_of_ble_eq_true rfl, Nat.le_of_ble_eq_true rfl⟩ (by rw [hz9, ← hi39.2, show (6 - r).toNat = 0 by omega]; rfl)
        · refine G_aload_n (pc := 46) 0 0 dX0_sharer_46 rfl rfl ?_
          refine G_iload (pc := 47) 8 dX0_sharer_47 rfl ?_
          refine G_iload_n (pc := 49) 2 2 dX0_sharer_49 rfl rfl ?_
          refine G_callVd (pc := 50) gk_X0_42 dX0_sharer_50 (mg_15 (by first | assumption | omega | exact ⟨by omega, by omega⟩ | exact hS _ _ | exact hT _ _)) rfl (c_X0_isInWith (by first | assumption | omega | exact ⟨by omega, by omega⟩ | exact hS _ _ | exact hT _ _) (by first | assumption | omega | exact ⟨by omega, by omega⟩ | exact hS _ _ | exact hT _ _) (by first | assumption | omega | exact ⟨by omega, by omega⟩ | exact hS _ _ | exact hT _ _) (by first | assumption | omega | exact ⟨by omega, by omega⟩ | exact hS _ _ | exact hT _ _)) rfl rfl (Nat.le_of_ble_eq_true rfl) ⟨⟨Nat.le_of_ble_eq_true rfl, Nat.le_of_ble_eq_true rfl⟩, Nat.le_of_ble_eq_true rfl, Nat.le_of_ble_eq_true rfl⟩ ?_
          refine G_if_eq_b (pc := 53) 89 dX0_sharer_53 (by decide) (fun c53 => ?_) (fun c53 => ?_)
          · have hz : zsN S g c p v19 v28 (6 - r).toNat r s k = zsN S g c p v19 v28 (6 - (r + 1)).toNat (r + 1) s k := by rw [show (6 - r).toNat = (6 - (r + 1)).toNat + 1 by omega]; exact zsN_out _ c53
            refine G_iinc_e (pc := 89) 8 (fun zw => [(8, .int (zI zw)), (0, .ref (ad (15, g, 0, 0))), (1, .int (zI p)), (2, .int (zI c)), (3, .int (zI v5)), (4, .int (zI v19)), (5, .int (zI v28)), (6, .int (zI s)), (7, .int (zI k))]) dX0_sharer_89 rfl (by decide) (fun _ => rfl) (fun v89 e89 => ?_)
            refine G_goto (pc := 92) 39 dX0_sharer_92 (by decide) ?_
            refine G_perm (lv' := [(0, .ref (ad (15, g, 0, 0))), (1, .int (zI p)), (2, .int (zI c)), (3, .int (zI v5)), (4, .int (zI v19)), (5, .int (zI v28)), (6, .int (zI s)), (7, .int (zI k)), (8, .int (zI v89))]) [1, 2, 3, 4, 5, 6, 7, 8, 0] rfl ?_
            exact ih39 s k v89  ⟨by omega, by rw [e89, ← hi39.2, hz]⟩ (by omega)
          · refine G_iload (pc := 56) 6 dX0_sharer_56 rfl ?_
            refine G_iload (pc := 58) 7 dX0_sharer_58 rfl ?_
            refine G_iload (pc := 60) 5 dX0_sharer_60 rfl ?_
            refine G_icmp_ge (pc := 62) 72 dX0_sharer_62 (by decide) (by first | exact hS _ _ | exact hT _ _ | exact ⟨by omega, by omega⟩ | assumption) (by first | exact hS _ _ | exact hT _ _ | exact ⟨by omega, by omega⟩ | assumption) (fun c62 => ?_) (fun c62 => ?_)
            · refine G_iload (pc := 72) 4 dX0_sharer_72 rfl ?_
              refine G_iadd (pc := 74) dX0_sharer_74 ?_
              refine G_istore_e (pc := 75) (fun zw => [(6, .int (zI zw)), (0, .ref (ad (15, g, 0, 0))), (1, .int (zI p)), (2, .int (zI c)), (3, .int (zI v5)), (4, .int (zI v19)), (5, .int (zI v28)), (7, .int (zI k)), (8, .int (zI r))]) dX0_sharer_75 (by decide) (fun _ => rfl) (fun v75 e75 => ?_)
              refine G_iinc_e (pc := 77) 7 (fun zw => [(7, .int (zI zw)), (6, .int (zI v75)), (0, .ref (ad (15, g, 0, 0))), (1, .int (zI p)), (2, .int (zI c)), (3, .int (zI v5)), (4, .int (zI v19)), (5, .int (zI v28)), (8, .int (zI r))]) dX0_sharer_77 rfl (by decide) (fun _ => rfl) (fun v77 e77 => ?_)
              have hs5 : v75 = s + (if k < v28 then v19 + 1 else v19) := by first | (rw [e75, if_pos (by omega)]) | (rw [e75, if_neg (by omega)])
              refine G_iload_n (pc := 80) 1 3 dX0_sharer_80 rfl rfl ?_
              refine G_iload (pc := 81) 1 dX0_sharer_81 rfl ?_
              refine G_icmp_ge (pc := 83) 89 dX0_sharer_83 (by decide) (by first | exact hS _ _ | exact hT _ _ | exact ⟨by omega, by omega⟩ | assumption) (by first | exact hS _ _ | exact hT _ _ | exact ⟨by omega, by omega⟩ | assumption) (fun c83 => ?_) (fun c83 => ?_)
              · have hz : zsN S g c p v19 v28 (6 - r).toNat r s k = zsN S g c p v19 v28 (6 - (r + 1)).toNat (r + 1) v75 v77 := by rw [show (6 - r).toNat = (6 - (r + 1)).toNat + 1 by omega, zsN_in _ c53 hs5, if_neg (by omega), e77]
                refine G_iinc_e (pc := 89) 8 (fun zw => [(8, .int (zI zw)), (7, .int (zI v77)), (6, .int (zI v75)), (0, .ref (ad (15, g, 0, 0))), (1, .int (zI p)), (2, .int (zI c)), (3, .int (zI v5)), (4, .int (zI v19)), (5, .int (zI v28))]) dX0_sharer_89 rfl (by decide) (fun _ => rfl) (fun v89 e89 => ?_)
                refine G_goto (pc := 92) 39 dX0_sharer_92 (by decide) ?_
                refine G_perm (lv' := [(0, .ref (ad (15, g, 0, 0))), (1, .int (zI p)), (2, .int (zI c)), (3, .int (zI v5)), (4, .int (zI v19)), (5, .int (zI v28)), (6, .int (zI v75)), (7, .int (zI v77)), (8, .int (zI v89))]) [3, 4, 5, 6, 7, 8, 2, 1, 0] rfl ?_
                exact ih39 v75 v77 v89  ⟨by omega, by rw [e89, ← hi39.2, hz]⟩ (by omega)
              · have hz : zsN S g c p v19 v28 (6 - r).toNat r s k = r := by rw [show (6 - r).toNat = (6 - (r + 1)).toNat + 1 by omega, zsN_in _ c53 hs5, if_pos (by omega)]
                refine G_iload (pc := 86) 8 dX0_sharer_86 rfl ?_
                exact G_iret_d (pc := 88) hF dX0_sharer_88 ⟨Nat.le_of_ble_eq_true rfl, Nat.le_of_ble_eq_true rfl⟩ (by rw [hz9, ← hi39.2, hz])
            · refine G_iload (pc := 65) 4 dX0_sharer_65 rfl ?_
              refine G_iconst (pc := 67) dX0_sharer_67 ?_
              refine G_iadd (pc := 68) dX0_sharer_68 ?_
              refine G_goto (pc := 69) 74 dX0_sharer_69 (by decide) ?_
              refine G_iadd (pc := 74) dX0_sharer_74 ?_
              refine G_istore_e (pc := 75) (fun zw => [(6, .int (zI zw)), (0, .ref (ad (15, g, 0, 0))), (1, .int (zI p)), (2, .int (zI c)), (3, .int (zI v5)), (4, .int (zI v19)), (5, .int (zI v28)), (7, .int (zI k)), (8, .int (zI r))]) dX0_sharer_75 (by decide) (fun _ => rfl) (fun v75 e75 => ?_)
              refine G_iinc_e (pc := 77) 7 (fun zw => [(7, .int (zI zw)), (6, .int (zI v75)), (0, .ref (ad (15, g, 0, 0))), (1, .int (zI p)), (2, .int (zI c)), (3, .int (zI v5)), (4, .int (zI v19)), (5, .int (zI v28)), (8, .int (zI r))]) dX0_sharer_77 rfl (by decide) (fun _ => rfl) (fun v77 e77 => ?_)
              have hs5 : v75 = s + (if k < v28 then v19 + 1 else v19) := by first | (rw [e75, if_pos (by omega)]) | (rw [e75, if_neg (by omega)])
              refine G_iload_n (pc := 80) 1 3 dX0_sharer_80 rfl rfl ?_
              refine G_iload (pc := 81) 1 dX0_sharer_81 rfl ?_
              refine G_icmp_ge (pc := 83) 89 dX0_sharer_83 (by decide) (by first | exact hS _ _ | exact hT _ _ | exact ⟨by omega, by omega⟩ | assumption) (by first | exact hS _ _ | exact hT _ _ | exact ⟨by omega, by omega⟩ | assumption) (fun c83 => ?_) (fun c83 => ?_)
              · have hz : zsN S g c p v19 v28 (6 - r).toNat r s k = zsN S g c p v19 v28 (6 - (r + 1)).toNat (r + 1) v75 v77 := by rw [show (6 - r).toNat = (6 - (r + 1)).toNat + 1 by omega, zsN_in _ c53 hs5, if_neg (by omega), e77]
                refine G_iinc_e (pc := 89) 8 (fun zw => [(8, .int (zI zw)), (7, .int (zI v77)), (6, .int (zI v75)), (0, .ref (ad (15, g, 0, 0))), (1, .int (zI p)), (2, .int (zI c)), (3, .int (zI v5)), (4, .int (zI v19)), (5, .int (zI v28))]) dX0_sharer_89 rfl (by decide) (fun _ => rfl) (fun v89 e89 => ?_)
                refine G_goto (pc := 92) 39 dX0_sharer_92 (by decide) ?_
                refine G_perm (lv' := [(0, .ref (ad (15, g, 0, 0))), (1, .int (zI p)), (2, .int (zI c)), (3, .int (zI v5)), (4, .int (zI v19)), (5, .int (zI v28)), (6, .int (zI v75)), (7, .int (zI v77)), (8, .int (zI v89))]) [3, 4, 5, 6, 7, 8, 2, 1, 0] rfl ?_
                exact ih39 v75 v77 v89  ⟨by omega, by rw [e89, ← hi39.2, hz]⟩ (by omega)
              · have hz : zsN S g c p v19 v28 (6 - r).toNat r s k = r := by rw [show (6 - r).toNat = (6 - (r + 1)).toNat + 1 by omega, zsN_in _ c53 hs5, if_pos (by omega)]
                refine G_iload (pc := 86) 8 dX0_sharer_86 rfl ?_
                exact G_iret_d (pc := 88) hF dX0_sharer_88 ⟨Nat.le_of_ble_eq_true rfl, Nat.le_of_ble_eq_true rfl⟩ (by rw [hz9, ← hi39.2, hz])
    refine G_perm (lv' := [(0, .ref (ad (15, g, 0, 0))), (1, .int (zI p)), (2, .int (zI c)), (3, .int (zI v5)), (4, .int (zI v19)), (5, .int (zI v28)), (6, .int (zI v31)), (7, .int (zI v34)), (8, .int (zI v37))]) [6, 7, 8, 5, 4, 3, 2, 1, 0] rfl ?_
    exact L39 _ v31 v34 v37  ⟨by omega, by rw [e31, e34, e37]; rfl⟩ (Nat.lt_succ_self _)
  · refine G_iconst (pc := 10) dX0_sharer_10 ?_
    exact G_iret_d (pc := 11) hF dX0_sharer_11 ⟨Nat.le_of_ble_eq_true rfl, Nat.le_of_ble_eq_true rfl⟩ (by unfold zsr; rw [if_pos (by omega)])
set_option maxHeartbeats 4000000 in
set_option maxRecDepth 100000 in
theorem c_X0_countOf {l : Launch} {Δ : zDl} {ad : zK → Nat} {P : zP} {S : zS} {X : zMem} {g x : Int} (hP : zWP P) (hg : 0 ≤ g ∧ g < P 3 0 0) (hW : zWS P S) (hx : zR x) : zMn l Δ yX0_countOf cX0_countOf 4 (some .int) 4 0 0 [.ref (ad (15, g, 0, 0)), .int (zI x)] ad (mm Δ ad P S X) (zD (some (.int (zI (sm (fun p => zco P S g x p) 0 (P 1 (P 4 g 0) 0))))) ad (mm Δ ad P S X)) := by
  refine zMn_of (by decide) (Nat.le_of_ble_eq_true rfl) (fun Γ hl hΔ hF => ?_)
  subst hl hΔ
  show G Γ _ _ _ RX0 _ _ _ _ _ [(0, .ref (ad (15, g, 0, 0))), (1, .int (zI x))] []
  have hG := hP.g hg
  have hN := hP.t hG
  have hS := hW.R
  refine G_iconst (pc := 0) dX0_countOf_0 ?_
  refine G_istore_ne (pc := 1) 2 (fun zw => [(2, .int (zI zw)), (0, .ref (ad (15, g, 0, 0))), (1, .int (zI x))]) dX0_countOf_1 rfl (by decide) (fun _ => rfl) (fun v1 e1 => ?_)
  refine G_iconst (pc := 2) dX0_countOf_2 ?_
  refine G_istore_ne (pc := 3) 3 (fun zw => [(3, .int (zI zw)), (2, .int (zI v1)), (0, .ref (ad (15, g, 0, 0))), (1, .int (zI x))]) dX0_countOf_3 rfl (by decide) (fun _ => rfl) (fun v3 e3 => ?_)
  have L4 : ∀ (n : Nat) (m : Int) (p : Int), ((0 ≤ p ∧ p ≤ P 1 (P 4 g 0) 0) ∧ m + sm (fun p => zco P S g x p) p (P 1 (P 4 g 0) 0) = sm (fun p => zco P S g x p) 0 (P 1 (P 4 g 0) 0)) → (P 1 (P 4 g 0) 0 - p).toNat < n → G Γ (zRm 4 0 0) cX0_countOf 4 RX0 ad (mm (z_d Γ) ad P S X) 0 0 4 [(0, .ref (ad (15, g, 0, 0))), (1, .int (zI x)), (2, .int (zI m)), (3, .int (zI p))] [] := by
    intro n
    induction n with
    | zero => intro m p _ hn; omega
    | succ n ih4 =>
      intro m p hi4 hn4
      refine G_iload_n (pc := 4) 3 3 dX0_countOf_4 rfl rfl ?_
      refine G_aload_n (pc := 5) 0 0 dX0_countOf_5 rfl rfl ?_
      refine G_getf (pc := 6) fl_X0_23 dX0_countOf_6 (mg_15 (by first | assumption | omega | exact ⟨by omega, by omega⟩ | exact hS _ _ | exact hT _ _)) rfl ?_
      refine G_alen (pc := 9) (t := 3) rfl dX0_countOf_9 (mg_16 (by first | assumption | omega | exact ⟨by omega, by omega⟩ | exact hS _ _ | exact hT _ _)) ?_
      refine G_icmp_ge (pc := 10) 32 dX0_countOf_10 (by decide) (by first | exact hS _ _ | exact hT _ _ | exact ⟨by omega, by omega⟩ | assumption) (by first | exact hS _ _ | exact hT _ _ | exact ⟨by omega, by omega⟩ | assumption) (fun c10 => ?_) (fun c10 => ?_)
      · refine G_iload_n (pc := 32) 2 2 dX0_countOf_32 rfl rfl ?_
        exact G_iret_d (pc := 33) hF dX0_countOf_33 ⟨Nat.le_of_ble_eq_true rfl, Nat.le_of_ble_eq_true rfl⟩ (by rw [← hi4.2, sm_end (by omega)]; omega)
      · refine G_iload_n (pc := 13) 2 2 dX0_countOf_13 rfl rfl ?_
        refine G_aload_n (pc := 14) 0 0 dX0_countOf_14 rfl rfl ?_
        refine G_getf (pc := 15) fl_X0_23 dX0_countOf_15 (mg_15 (by first | assumption | omega | exact ⟨by omega, by omega⟩ | exact hS _ _ | exact hT _ _)) rfl ?_
        refine G_iload_n (pc := 18) 3 3 dX0_countOf_18 rfl rfl ?_
        refine G_aald (pc := 19) (t := 3) rfl dX0_countOf_19 (mg_16 (by first | assumption | omega | exact ⟨by omega, by omega⟩ | exact hS _ _ | exact hT _ _)) ⟨by omega, by omega, by omega, by omega⟩ rfl ?_
        refine G_iload_n (pc := 20) 1 1 dX0_countOf_20 rfl rfl ?_
        refine G_callVd (pc := 21) gk_X0_56 dX0_countOf_21 (mg_18 (by first | assumption | omega | exact ⟨by omega, by omega⟩ | exact hS _ _ | exact hT _ _)) rfl (c_X4_countOf (by first | assumption | omega | exact ⟨by omega, by omega⟩ | exact hS _ _ | exact hT _ _) (by first | assumption | omega | exact ⟨by omega, by omega⟩ | exact hS _ _ | exact hT _ _) (by first | assumption | omega | exact ⟨by omega, by omega⟩ | exact hS _ _ | exact hT _ _) (by first | assumption | omega | exact ⟨by omega, by omega⟩ | exact hS _ _ | exact hT _ _) (by first | assumption | omega | exact ⟨by omega, by omega⟩ | exact hS _ _ | exact hT _ _)) rfl rfl (Nat.le_of_ble_eq_true rfl) ⟨⟨Nat.le_of_ble_eq_true rfl, Nat.le_of_ble_eq_true rfl⟩, Nat.le_of_ble_eq_true rfl, Nat.le_of_ble_eq_true rfl⟩ ?_
        refine G_iadd (pc := 24) dX0_countOf_24 ?_
        refine G_istore_ne (pc := 25) 2 (fun zw => [(2, .int (zI zw)), (0, .ref (ad (15, g, 0, 0))), (1, .int (zI x)), (3, .int (zI p))]) dX0_countOf_25 rfl (by decide) (fun _ => rfl) (fun v25 e25 => ?_)
        refine G_iinc_e (pc := 26) 3 (fun zw => [(3, .int (zI zw)), (2, .int (zI v25)), (0, .ref (ad (15, g, 0, 0))), (1, .int (zI x))]) dX0_countOf_26 rfl (by decide) (fun _ => rfl) (fun v26 e26 => ?_)
        refine G_goto (pc := 29) 4 dX0_countOf_29 (by decide) ?_
        refine G_perm (lv' := [(0, .ref (ad (15, g, 0, 0))), (1, .int (zI x)), (2, .int (zI v25)), (3, .int (zI v26))]) [2, 3, 1, 0] rfl ?_
        exact ih4 v25 v26  ⟨by omega, by rw [e25, e26, ← hi4.2, sm_step (a := p) (n := P 1 (P 4 g 0) 0) (by omega)]; show m + zco P S g x p + _ = _; omega⟩ (by omega)
  refine G_perm (lv' := [(0, .ref (ad (15, g, 0, 0))), (1, .int (zI x)), (2, .int (zI v1)), (3, .int (zI v3))]) [2, 3, 1, 0] rfl ?_
  exact L4 _ v1 v3  ⟨by omega, by subst e1 e3; exact Int.zero_add _⟩ (Nat.lt_succ_self _)
set_option maxHeartbeats 4000000 in
set_option maxRecDepth 100000 in
theorem c_X0_sumOfTriesOfRead {l : Launch} {Δ : zDl} {ad : zK → Nat} {P : zP} {S : zS} {X : zMem} {g : Int} (hP : zWP P) (hg : 0 ≤ g ∧ g < P 3 0 0) (hW : zWS P S) : zMn l Δ yX0_sumOfTriesOfRead cX0_sumOfTriesOfRead 3 (some .int) 4 0 0 [.ref (ad (15, g, 0, 0))] ad (mm Δ ad P S X) (zD (some (.int (zI (sm (fun p => zsu P S g p) 0 (P 1 (P 4 g 0) 0))))) ad (mm Δ ad P S X)) := by
  refine zMn_of (by decide) (Nat.le_of_ble_eq_true rfl) (fun Γ hl hΔ hF => ?_)
  subst hl hΔ
  show G Γ _ _ _ RX0 _ _ _ _ _ [(0, .ref (ad (15, g, 0, 0)))] []
  have hG := hP.g hg
  have hN := hP.t hG
  have hS := hW.R
  refine G_iconst (pc := 0) dX0_sumOfTriesOfRead_0 ?_
  refine G_istore_ne (pc := 1) 1 (fun zw => [(1, .int (zI zw)), (0, .ref (ad (15, g, 0, 0)))]) dX0_sumOfTriesOfRead_1 rfl (by decide) (fun _ => rfl) (fun v1 e1 => ?_)
  refine G_iconst (pc := 2) dX0_sumOfTriesOfRead_2 ?_
  refine G_istore_ne (pc := 3) 2 (fun zw => [(2, .int (zI zw)), (1, .int (zI v1)), (0, .ref (ad (15, g, 0, 0)))]) dX0_sumOfTriesOfRead_3 rfl (by decide) (fun _ => rfl) (fun v3 e3 => ?_)
  have L4 : ∀ (n : Nat) (m : Int) (p : Int), ((0 ≤ p ∧ p ≤ P 1 (P 4 g 0) 0) ∧ m + sm (fun p => zsu P S g p) p (P 1 (P 4 g 0) 0) = sm (fun p => zsu P S g p) 0 (P 1 (P 4 g 0) 0)) → (P 1 (P 4 g 0) 0 - p).toNat < n → G Γ (zRm 4 0 0) cX0_sumOfTriesOfRead 3 RX0 ad (mm (z_d Γ) ad P S X) 0 0 4 [(0, .ref (ad (15, g, 0, 0))), (1, .int (zI m)), (2, .int (zI p))] [] := by
    intro n
    induction n with
    | zero => intro m p _ hn; omega
    | succ n ih4 =>
      intro m p hi4 hn4
      refine G_iload_n (pc := 4) 2 2 dX0_sumOfTriesOfRead_4 rfl rfl ?_
      refine G_aload_n (pc := 5) 0 0 dX0_sumOfTriesOfRead_5 rfl rfl ?_
      refine G_getf (pc := 6) fl_X0_23 dX0_sumOfTriesOfRead_6 (mg_15 (by first | assumption | omega | exact ⟨by omega, by omega⟩ | exact hS _ _ | exact hT _ _)) rfl ?_
      refine G_alen (pc := 9) (t := 3) rfl dX0_sumOfTriesOfRead_9 (mg_16 (by first | assumption | omega | exact ⟨by omega, by omega⟩ | exact hS _ _ | exact hT _ _)) ?_
      refine G_icmp_ge (pc := 10) 31 dX0_sumOfTriesOfRead_10 (by decide) (by first | exact hS _ _ | exact hT _ _ | exact ⟨by omega, by omega⟩ | assumption) (by first | exact hS _ _ | exact hT _ _ | exact ⟨by omega, by omega⟩ | assumption) (fun c10 => ?_) (fun c10 => ?_)
      · refine G_iload_n (pc := 31) 1 1 dX0_sumOfTriesOfRead_31 rfl rfl ?_
        exact G_iret_d (pc := 32) hF dX0_sumOfTriesOfRead_32 ⟨Nat.le_of_ble_eq_true rfl, Nat.le_of_ble_eq_true rfl⟩ (by rw [← hi4.2, sm_end (by omega)]; omega)
      · refine G_iload_n (pc := 13) 1 1 dX0_sumOfTriesOfRead_13 rfl rfl ?_
        refine G_aload_n (pc := 14) 0 0 dX0_sumOfTriesOfRead_14 rfl rfl ?_
        refine G_getf (pc := 15) fl_X0_23 dX0_sumOfTriesOfRead_15 (mg_15 (by first | assumption | omega | exact ⟨by omega, by omega⟩ | exact hS _ _ | exact hT _ _)) rfl ?_
        refine G_iload_n (pc := 18) 2 2 dX0_sumOfTriesOfRead_18 rfl rfl ?_
        refine G_aald (pc := 19) (t := 3) rfl dX0_sumOfTriesOfRead_19 (mg_16 (by first | assumption | omega | exact ⟨by omega, by omega⟩ | exact hS _ _ | exact hT _ _)) ⟨by omega, by omega, by omega, by omega⟩ rfl ?_
        refine G_callVd (pc := 20) gk_X0_59 dX0_sumOfTriesOfRead_20 (mg_18 (by first | assumption | omega | exact ⟨by omega, by omega⟩ | exact hS _ _ | exact hT _ _)) rfl (c_X4_sumOfTriesOfRead (by first | assumption | omega | exact ⟨by omega, by omega⟩ | exact hS _ _ | exact hT _ _) (by first | assumption | omega | exact ⟨by omega, by omega⟩ | exact hS _ _ | exact hT _ _) (by first | assumption | omega | exact ⟨by omega, by omega⟩ | exact hS _ _ | exact hT _ _) (by first | assumption | omega | exact ⟨by omega, by omega⟩ | exact hS _ _ | exact hT _ _)) rfl rfl (Nat.le_of_ble_eq_true rfl) ⟨⟨Nat.le_of_ble_eq_true rfl, Nat.le_of_ble_eq_true rfl⟩, Nat.le_of_ble_eq_true rfl, Nat.le_of_ble_eq_true rfl⟩ ?_
        refine G_iadd (pc := 23) dX0_sumOfTriesOfRead_23 ?_
        refine G_istore_ne (pc := 24) 1 (fun zw => [(1, .int (zI zw)), (0, .ref (ad (15, g, 0, 0))), (2, .int (zI p))]) dX0_sumOfTriesOfRead_24 rfl (by decide) (fun _ => rfl) (fun v24 e24 => ?_)
        refine G_iinc_e (pc := 25) 2 (fun zw => [(2, .int (zI zw)), (1, .int (zI v24)), (0, .ref (ad (15, g, 0, 0)))]) dX0_sumOfTriesOfRead_25 rfl (by decide) (fun _ => rfl) (fun v25 e25 => ?_)
        refine G_goto (pc := 28) 4 dX0_sumOfTriesOfRead_28 (by decide) ?_
        refine G_perm (lv' := [(0, .ref (ad (15, g, 0, 0))), (1, .int (zI v24)), (2, .int (zI v25))]) [2, 1, 0] rfl ?_
        exact ih4 v24 v25  ⟨by omega, by rw [e24, e25, ← hi4.2, sm_step (a := p) (n := P 1 (P 4 g 0) 0) (by omega)]; show m + zsu P S g p + _ = _; omega⟩ (by omega)
  refine G_perm (lv' := [(0, .ref (ad (15, g, 0, 0))), (1, .int (zI v1)), (2, .int (zI v3))]) [2, 1, 0] rfl ?_
  exact L4 _ v1 v3  ⟨by omega, by subst e1 e3; exact Int.zero_add _⟩ (Nat.lt_succ_self _)
set_option maxHeartbeats 4000000 in
set_option maxRecDepth 100000 in
theorem c_X0_share {l : Launch} {Δ : zDl} {ad : zK → Nat} {P : zP} {S : zS} {X : zMem} {g : Int} (hP : zWP P) (hg : 0 ≤ g ∧ g < P 3 0 0) (hW : zWS P S) : zMn l Δ yX0_share cX0_share 2 none 4 0 0 [.ref (ad (15, g, 0, 0))] ad (mm Δ ad P S X) (zD none ad (mm Δ ad P (lp (zsf P g) 0 (P 1 (P 4 g 0) 0) S) X)) := by
  refine zMn_of (by decide) (Nat.le_of_ble_eq_true rfl) (fun Γ hl hΔ hF => ?_)
  subst hl hΔ
  show G Γ _ _ _ RX0 _ _ _ _ _ [(0, .ref (ad (15, g, 0, 0)))] []
  have hG := hP.g hg
  have hN := hP.t hG
  have hS := hW.R
  refine G_iconst (pc := 0) dX0_share_0 ?_
  refine G_istore_ne (pc := 1) 1 (fun zw => [(1, .int (zI zw)), (0, .ref (ad (15, g, 0, 0)))]) dX0_share_1 rfl (by decide) (fun _ => rfl) (fun v1 e1 => ?_)
  have L2 : ∀ (n : Nat) (p : Int) (T : zS), ((0 ≤ p ∧ p ≤ P 1 (P 4 g 0) 0) ∧ lp (zsf P g) p (P 1 (P 4 g 0) 0) T = lp (zsf P g) 0 (P 1 (P 4 g 0) 0) S ∧ zWS P T) → (P 1 (P 4 g 0) 0 - p).toNat < n → G Γ (zRm 4 0 0) cX0_share 2 RX0 ad (mm (z_d Γ) ad P T X) 0 0 2 [(0, .ref (ad (15, g, 0, 0))), (1, .int (zI p))] [] := by
    intro n
    induction n with
    | zero => intro p T _ hn; omega
    | succ n ih2 =>
      intro p T hi2 hn2
      obtain ⟨hp0, hq, hTW⟩ := hi2
      have hT := hTW.R
      have hz4 := zsr_le (P := P) (S := T) (g := g) (p := p) (c := -1)
      refine G_iload_n (pc := 2) 1 1 dX0_share_2 rfl rfl ?_
      refine G_aload_n (pc := 3) 0 0 dX0_share_3 rfl rfl ?_
      refine G_getf (pc := 4) fl_X0_23 dX0_share_4 (mg_15 (by first | assumption | omega | exact ⟨by omega, by omega⟩ | exact hS _ _ | exact hT _ _)) rfl ?_
      refine G_alen (pc := 7) (t := 3) rfl dX0_share_7 (mg_16 (by first | assumption | omega | exact ⟨by omega, by omega⟩ | exact hS _ _ | exact hT _ _)) ?_
      refine G_icmp_ge (pc := 8) 32 dX0_share_8 (by decide) (by first | exact hS _ _ | exact hT _ _ | exact ⟨by omega, by omega⟩ | assumption) (by first | exact hS _ _ | exact hT _ _ | exact ⟨by omega, by omega⟩ | assumption) (fun c8 => ?_) (fun c8 => ?_)
      · exact G_vret_d (pc := 32) hF dX0_share_32 ⟨Nat.le_of_ble_eq_true rfl, Nat.le_of_ble_eq_true rfl⟩ (by rw [← hq, lp_end (by omega)])
      · refine G_aload_n (pc := 11) 0 0 dX0_share_11 rfl rfl ?_
        refine G_getf (pc := 12) fl_X0_23 dX0_share_12 (mg_15 (by first | assumption | omega | exact ⟨by omega, by omega⟩ | exact hS _ _ | exact hT _ _)) rfl ?_
        refine G_iload_n (pc := 15) 1 1 dX0_share_15 rfl rfl ?_
        refine G_aald (pc := 16) (t := 3) rfl dX0_share_16 (mg_16 (by first | assumption | omega | exact ⟨by omega, by omega⟩ | exact hS _ _ | exact hT _ _)) ⟨by omega, by omega, by omega, by omega⟩ rfl ?_
        refine G_aload_n (pc := 17) 0 0 dX0_share_17 rfl rfl ?_
        refine G_iload_n (pc := 18) 1 1 dX0_share_18 rfl rfl ?_
        refine G_iconst (pc := 19) dX0_share_19 ?_
        refine G_callVd (pc := 20) gk_X0_30 dX0_share_20 (mg_15 (by first | assumption | omega | exact ⟨by omega, by omega⟩ | exact hS _ _ | exact hT _ _)) rfl (c_X0_sharer (by first | assumption | omega | exact ⟨by omega, by omega⟩ | exact hS _ _ | exact hT _ _) (by first | assumption | omega | exact ⟨by omega, by omega⟩ | exact hS _ _ | exact hT _ _) (by first | assumption | omega | exact ⟨by omega, by omega⟩ | exact hS _ _ | exact hT _ _) (by first | assumption | omega | exact ⟨by omega, by omega⟩ | exact hS _ _ | exact hT _ _) (by first | assumption | omega | exact ⟨by omega, by omega⟩ | exact hS _ _ | exact hT _ _)) rfl rfl (Nat.le_of_ble_eq_true rfl) ⟨⟨Nat.le_of_ble_eq_true rfl, Nat.le_of_ble_eq_true rfl⟩, Nat.le_of_ble_eq_true rfl, Nat.le_of_ble_eq_true rfl⟩ ?_
        refine G_callVv (pc := 23) gk_X0_34 dX0_share_23 (mg_18 (by first | assumption | omega | exact ⟨by omega, by omega⟩ | exact hS _ _ | exact hT _ _)) rfl (c_X4_handTo (by first | assumption | omega | exact ⟨by omega, by omega⟩ | exact hS _ _ | exact hT _ _) (by first | assumption | omega | exact ⟨by omega, by omega⟩ | exact hS _ _ | exact hT _ _) (by first | assumption | omega | exact ⟨by omega, by omega⟩ | exact hS _ _ | exact hT _ _) (by first | assumption | omega | exact ⟨by omega, by omega⟩ | exact hS _ _ | exact hT _ _) (by first | assumption | omega | exact ⟨by omega, by omega⟩ | exact hS _ _ | exact hT _ _)) rfl rfl (Nat.le_of_ble_eq_true rfl) ⟨⟨Nat.le_of_ble_eq_true rfl, Nat.le_of_ble_eq_true rfl⟩, Nat.le_of_ble_eq_true rfl, Nat.le_of_ble_eq_true rfl⟩ ?_
        refine G_name (fun S1_23 hS1_23 => ?_)
        refine G_iinc_e (pc := 26) 1 (fun zw => [(1, .int (zI zw)), (0, .ref (ad (15, g, 0, 0)))]) dX0_share_26 rfl (by decide) (fun _ => rfl) (fun v26 e26 => ?_)
        refine G_goto (pc := 29) 2 dX0_share_29 (by decide) ?_
        refine G_perm (lv' := [(0, .ref (ad (15, g, 0, 0))), (1, .int (zI v26))]) [1, 0] rfl ?_
        exact ih2 v26 S1_23 ⟨by omega, by rw [e26, ← hq, lp_step (a := p) (n := P 1 (P 4 g 0) 0) (by omega), hS1_23]; rfl, by rw [hS1_23]; exact zht_W hP hg ⟨by omega, by omega⟩ ⟨by omega, by omega⟩ hTW⟩ (by omega)
  refine G_perm (lv' := [(0, .ref (ad (15, g, 0, 0))), (1, .int (zI v1))]) [1, 0] rfl ?_
  exact L2 _ v1 S ⟨by omega, by rw [e1], hW⟩ (Nat.lt_succ_self _)
set_option maxHeartbeats 4000000 in
set_option maxRecDepth 100000 in
theorem c_X0_keepUp {l : Launch} {Δ : zDl} {ad : zK → Nat} {P : zP} {S : zS} {X : zMem} {g : Int} (hP : zWP P) (hg : 0 ≤ g ∧ g < P 3 0 0) (hW : zWS P S) : zMn l Δ yX0_keepUp cX0_keepUp 2 none 7 0 0 [.ref (ad (15, g, 0, 0))] ad (mm Δ ad P S X) (zD none ad (mm Δ ad P (lp (zkf P g) 0 (P 1 (P 4 g 0) 0) S) X)) := by
  refine zMn_of (by decide) (Nat.le_of_ble_eq_true rfl) (fun Γ hl hΔ hF => ?_)
  subst hl hΔ
  show G Γ _ _ _ RX0 _ _ _ _ _ [(0, .ref (ad (15, g, 0, 0)))] []
  have hG := hP.g hg
  have hN := hP.t hG
  have hS := hW.R
  refine G_iconst (pc := 0) dX0_keepUp_0 ?_
  refine G_istore_ne (pc := 1) 1 (fun zw => [(1, .int (zI zw)), (0, .ref (ad (15, g, 0, 0)))]) dX0_keepUp_1 rfl (by decide) (fun _ => rfl) (fun v1 e1 => ?_)
  have L2 : ∀ (n : Nat) (p : Int) (T : zS), ((0 ≤ p ∧ p ≤ P 1 (P 4 g 0) 0) ∧ lp (zkf P g) p (P 1 (P 4 g 0) 0) T = lp (zkf P g) 0 (P 1 (P 4 g 0) 0) S ∧ zWS P T) → (P 1 (P 4 g 0) 0 - p).toNat < n → G Γ (zRm 7 0 0) cX0_keepUp 2 RX0 ad (mm (z_d Γ) ad P T X) 0 0 2 [(0, .ref (ad (15, g, 0, 0))), (1, .int (zI p))] [] := by
    intro n
    induction n with
    | zero => intro p T _ hn; omega
    | succ n ih2 =>
      intro p T hi2 hn2
      obtain ⟨hp0, hq, hTW⟩ := hi2
      have hT := hTW.R
      refine G_iload_n (pc := 2) 1 1 dX0_keepUp_2 rfl rfl ?_
      refine G_aload_n (pc := 3) 0 0 dX0_keepUp_3 rfl rfl ?_
      refine G_getf (pc := 4) fl_X0_23 dX0_keepUp_4 (mg_15 (by first | assumption | omega | exact ⟨by omega, by omega⟩ | exact hS _ _ | exact hT _ _)) rfl ?_
      refine G_alen (pc := 7) (t := 3) rfl dX0_keepUp_7 (mg_16 (by first | assumption | omega | exact ⟨by omega, by omega⟩ | exact hS _ _ | exact hT _ _)) ?_
      refine G_icmp_ge (pc := 8) 26 dX0_keepUp_8 (by decide) (by first | exact hS _ _ | exact hT _ _ | exact ⟨by omega, by omega⟩ | assumption) (by first | exact hS _ _ | exact hT _ _ | exact ⟨by omega, by omega⟩ | assumption) (fun c8 => ?_) (fun c8 => ?_)
      · exact G_vret_d (pc := 26) hF dX0_keepUp_26 ⟨Nat.le_of_ble_eq_true rfl, Nat.le_of_ble_eq_true rfl⟩ (by rw [← hq, lp_end (by omega)])
      · refine G_aload_n (pc := 11) 0 0 dX0_keepUp_11 rfl rfl ?_
        refine G_getf (pc := 12) fl_X0_23 dX0_keepUp_12 (mg_15 (by first | assumption | omega | exact ⟨by omega, by omega⟩ | exact hS _ _ | exact hT _ _)) rfl ?_
        refine G_iload_n (pc := 15) 1 1 dX0_keepUp_15 rfl rfl ?_
        refine G_aald (pc := 16) (t := 3) rfl dX0_keepUp_16 (mg_16 (by first | assumption | omega | exact ⟨by omega, by omega⟩ | exact hS _ _ | exact hT _ _)) ⟨by omega, by omega, by omega, by omega⟩ rfl ?_
        refine G_callVv (pc := 17) gk_X0_53 dX0_keepUp_17 (mg_18 (by first | assumption | omega | exact ⟨by omega, by omega⟩ | exact hS _ _ | exact hT _ _)) rfl (c_X4_keepUp (by first | assumption | omega | exact ⟨by omega, by omega⟩ | exact hS _ _ | exact hT _ _) (by first | assumption | omega | exact ⟨by omega, by omega⟩ | exact hS _ _ | exact hT _ _) (by first | assumption | omega | exact ⟨by omega, by omega⟩ | exact hS _ _ | exact hT _ _) (by first | assumption | omega | exact ⟨by omega, by omega⟩ | exact hS _ _ | exact hT _ _)) rfl rfl (Nat.le_of_ble_eq_true rfl) ⟨⟨Nat.le_of_ble_eq_true rfl, Nat.le_of_ble_eq_true rfl⟩, Nat.le_of_ble_eq_true rfl, Nat.le_of_ble_eq_true rfl⟩ ?_
        refine G_name (fun S1_17 hS1_17 => ?_)
        refine G_iinc_e (pc := 20) 1 (fun zw => [(1, .int (zI zw)), (0, .ref (ad (15, g, 0, 0)))]) dX0_keepUp_20 rfl (by decide) (fun _ => rfl) (fun v20 e20 => ?_)
        refine G_goto (pc := 23) 2 dX0_keepUp_23 (by decide) ?_
        refine G_perm (lv' := [(0, .ref (ad (15, g, 0, 0))), (1, .int (zI v20))]) [1, 0] rfl ?_
        exact ih2 v20 S1_17 ⟨by omega, by rw [e20, ← hq, lp_step (a := p) (n := P 1 (P 4 g 0) 0) (by omega), hS1_17]; rfl, by rw [hS1_17]; exact zku_W hP hg ⟨by omega, by omega⟩ hTW⟩ (by omega)
  refine G_perm (lv' := [(0, .ref (ad (15, g, 0, 0))), (1, .int (zI v1))]) [1, 0] rfl ?_
  exact L2 _ v1 S ⟨by omega, by rw [e1], hW⟩ (Nat.lt_succ_self _)
set_option maxHeartbeats 4000000 in
set_option maxRecDepth 100000 in
theorem c_X0_nextPlace {l : Launch} {Δ : zDl} {ad : zK → Nat} {P : zP} {S : zS} {X : zMem} {g x y : Int} (hP : zWP P) (hg : 0 ≤ g ∧ g < P 3 0 0) (hW : zWS P S) (hx : zR x) (hy : 0 ≤ y ∧ y ≤ 9999) : zMn l Δ yX0_nextPlace cX0_nextPlace 5 (some .int) 7 0 0 [.ref (ad (15, g, 0, 0)), .int (zI x), .int (zI y)] ad (mm Δ ad P S X) (zD (some (.int (zI (znp P S g x y)))) ad (mm Δ ad P S X)) := by
  refine zMn_of (by decide) (Nat.le_of_ble_eq_true rfl) (fun Γ hl hΔ hF => ?_)
  subst hl hΔ
  show G Γ _ _ _ RX0 _ _ _ _ _ [(0, .ref (ad (15, g, 0, 0))), (1, .int (zI x)), (2, .int (zI y))] []
  have hG := hP.g hg
  have hN := hP.t hG
  have hS := hW.R
  refine G_iconst (pc := 0) dX0_nextPlace_0 ?_
  refine G_istore_ne (pc := 1) 3 (fun zw => [(3, .int (zI zw)), (0, .ref (ad (15, g, 0, 0))), (1, .int (zI x)), (2, .int (zI y))]) dX0_nextPlace_1 rfl (by decide) (fun _ => rfl) (fun v1 e1 => ?_)
  have L2 : ∀ (n : Nat) (p : Int), ((0 ≤ p ∧ p ≤ P 1 (P 4 g 0) 0) ∧ fi (fun p => S (18, g, p, 0) 4 = x ∧ ¬ zno P S g p y = -1) p (P 1 (P 4 g 0) 0) = fi (fun p => S (18, g, p, 0) 4 = x ∧ ¬ zno P S g p y = -1) 0 (P 1 (P 4 g 0) 0)) → (P 1 (P 4 g 0) 0 - p).toNat < n → G Γ (zRm 7 0 0) cX0_nextPlace 5 RX0 ad (mm (z_d Γ) ad P S X) 0 0 2 [(0, .ref (ad (15, g, 0, 0))), (1, .int (zI x)), (2, .int (zI y)), (3, .int (zI p))] [] := by
    intro n
    induction n with
    | zero => intro p _ hn; omega
    | succ n ih2 =>
      intro p hi2 hn2
      refine G_iload_n (pc := 2) 3 3 dX0_nextPlace_2 rfl rfl ?_
      refine G_aload_n (pc := 3) 0 0 dX0_nextPlace_3 rfl rfl ?_
      refine G_getf (pc := 4) fl_X0_23 dX0_nextPlace_4 (mg_15 (by first | assumption | omega | exact ⟨by omega, by omega⟩ | exact hS _ _ | exact hT _ _)) rfl ?_
      refine G_alen (pc := 7) (t := 3) rfl dX0_nextPlace_7 (mg_16 (by first | assumption | omega | exact ⟨by omega, by omega⟩ | exact hS _ _ | exact hT _ _)) ?_
      refine G_icmp_ge (pc := 8) 56 dX0_nextPlace_8 (by decide) (by first | exact hS _ _ | exact hT _ _ | exact ⟨by omega, by omega⟩ | assumption) (by first | exact hS _ _ | exact hT _ _ | exact ⟨by omega, by omega⟩ | assumption) (fun c8 => ?_) (fun c8 => ?_)
      · refine G_iconst (pc := 56) dX0_nextPlace_56 ?_
        exact G_iret_d (pc := 57) hF dX0_nextPlace_57 ⟨Nat.le_of_ble_eq_true rfl, Nat.le_of_ble_eq_true rfl⟩ (by unfold znp; rw [← hi2.2, fi_end (by omega), if_neg (by omega)])
      · refine G_aload_n (pc := 11) 0 0 dX0_nextPlace_11 rfl rfl ?_
        refine G_getf (pc := 12) fl_X0_23 dX0_nextPlace_12 (mg_15 (by first | assumption | omega | exact ⟨by omega, by omega⟩ | exact hS _ _ | exact hT _ _)) rfl ?_
        refine G_iload_n (pc := 15) 3 3 dX0_nextPlace_15 rfl rfl ?_
        refine G_aald (pc := 16) (t := 3) rfl dX0_nextPlace_16 (mg_16 (by first | assumption | omega | exact ⟨by omega, by omega⟩ | exact hS _ _ | exact hT _ _)) ⟨by omega, by omega, by omega, by omega⟩ rfl ?_
        refine G_getf (pc := 17) fl_X0_46 dX0_nextPlace_17 (mg_18 (by first | assumption | omega | exact ⟨by omega, by omega⟩ | exact hS _ _ | exact hT _ _)) rfl ?_
        refine G_iload_n (pc := 20) 1 1 dX0_nextPlace_20 rfl rfl ?_
        refine G_icmp_ne (pc := 21) 50 dX0_nextPlace_21 (by decide) (by first | exact hS _ _ | exact hT _ _ | exact ⟨by omega, by omega⟩ | assumption) (by first | exact hS _ _ | exact hT _ _ | exact ⟨by omega, by omega⟩ | assumption) (fun c21 => ?_) (fun c21 => ?_)
        · refine G_iinc_e (pc := 50) 3 (fun zw => [(3, .int (zI zw)), (0, .ref (ad (15, g, 0, 0))), (1, .int (zI x)), (2, .int (zI y))]) dX0_nextPlace_50 rfl (by decide) (fun _ => rfl) (fun v50 e50 => ?_)
          refine G_goto (pc := 53) 2 dX0_nextPlace_53 (by decide) ?_
          refine G_perm (lv' := [(0, .ref (ad (15, g, 0, 0))), (1, .int (zI x)), (2, .int (zI y)), (3, .int (zI v50))]) [1, 2, 3, 0] rfl ?_
          exact ih2 v50  ⟨by omega, by rw [e50, ← hi2.2]; exact (fi_miss (a := p) (n := P 1 (P 4 g 0) 0) (by omega) (fun h => by first | exact c21 h.1 | exact h.2 (by omega))).symm⟩ (by omega)
        · refine G_aload_n (pc := 24) 0 0 dX0_nextPlace_24 rfl rfl ?_
          refine G_getf (pc := 25) fl_X0_23 dX0_nextPlace_25 (mg_15 (by first | assumption | omega | exact ⟨by omega, by omega⟩ | exact hS _ _ | exact hT _ _)) rfl ?_
          refine G_iload_n (pc := 28) 3 3 dX0_nextPlace_28 rfl rfl ?_
          refine G_aald (pc := 29) (t := 3) rfl dX0_nextPlace_29 (mg_16 (by first | assumption | omega | exact ⟨by omega, by omega⟩ | exact hS _ _ | exact hT _ _)) ⟨by omega, by omega, by omega, by omega⟩ rfl ?_
          refine G_iload_n (pc := 30) 2 2 dX0_nextPlace_30 rfl rfl ?_
          refine G_callVd (pc := 31) gk_X0_50 dX0_nextPlace_31 (mg_18 (by first | assumption | omega | exact ⟨by omega, by omega⟩ | exact hS _ _ | exact hT _ _)) rfl (c_X4_nextOffset (by first | assumption | omega | exact ⟨by omega, by omega⟩ | exact hS _ _ | exact hT _ _) (by first | assumption | omega | exact ⟨by omega, by omega⟩ | exact hS _ _ | exact hT _ _) (by first | assumption | omega | exact ⟨by omega, by omega⟩ | exact hS _ _ | exact hT _ _) (by first | assumption | omega | exact ⟨by omega, by omega⟩ | exact hS _ _ | exact hT _ _) (by first | assumption | omega | exact ⟨by omega, by omega⟩ | exact hS _ _ | exact hT _ _)) rfl rfl (Nat.le_of_ble_eq_true rfl) ⟨⟨Nat.le_of_ble_eq_true rfl, Nat.le_of_ble_eq_true rfl⟩, Nat.le_of_ble_eq_true rfl, Nat.le_of_ble_eq_true rfl⟩ ?_
          refine G_istore_e (pc := 34) (fun zw => [(4, .int (zI zw)), (0, .ref (ad (15, g, 0, 0))), (1, .int (zI x)), (2, .int (zI y)), (3, .int (zI p))]) dX0_nextPlace_34 (by decide) (fun _ => rfl) (fun v34 e34 => ?_)
          have hm9 := hP.m hG (p := p) ⟨hi2.1.1, by omega⟩
          have hno := zno_le hP hW hg ⟨hi2.1.1, by omega⟩ (x := y)
          refine G_iload (pc := 36) 0 dX0_nextPlace_36 rfl ?_
          refine G_iconst (pc := 38) dX0_nextPlace_38 ?_
          refine G_icmp_eq (pc := 39) 50 dX0_nextPlace_39 (by decide) (by first | exact hS _ _ | exact hT _ _ | exact ⟨by omega, by omega⟩ | assumption) (by first | exact hS _ _ | exact hT _ _ | exact ⟨by omega, by omega⟩ | assumption) (fun c39 => ?_) (fun c39 => ?_)
          · refine G_iinc_e (pc := 50) 4 (fun zw => [(3, .int (zI zw)), (4, .int (zI v34)), (0, .ref (ad (15, g, 0, 0))), (1, .int (zI x)), (2, .int (zI y))]) dX0_nextPlace_50 rfl (by decide) (fun _ => rfl) (fun v50 e50 => ?_)
            refine G_goto (pc := 53) 2 dX0_nextPlace_53 (by decide) ?_
            refine G_perm (lv' := [(0, .ref (ad (15, g, 0, 0))), (1, .int (zI x)), (2, .int (zI y)), (3, .int (zI v50))]) [2, 3, 4, 0] rfl ?_
            exact ih2 v50  ⟨by omega, by rw [e50, ← hi2.2]; exact (fi_miss (a := p) (n := P 1 (P 4 g 0) 0) (by omega) (fun h => by first | exact c21 h.1 | exact h.2 (by omega))).symm⟩ (by omega)
          · refine G_bipush (pc := 42) dX0_nextPlace_42 (by decide) ?_
            refine G_iload_n (pc := 44) 3 4 dX0_nextPlace_44 rfl rfl ?_
            refine G_imul (pc := 45) dX0_nextPlace_45 ?_
            refine G_iload (pc := 46) 0 dX0_nextPlace_46 rfl ?_
            refine G_iadd (pc := 48) dX0_nextPlace_48 ?_
            exact G_iret_d (pc := 49) hF dX0_nextPlace_49 ⟨Nat.le_of_ble_eq_true rfl, Nat.le_of_ble_eq_true rfl⟩ (by unfold znp; rw [← hi2.2, fi_hit (a := p) (n := P 1 (P 4 g 0) 0) (by omega) ⟨by omega, by omega⟩, if_pos (by omega), e34])
  refine G_perm (lv' := [(0, .ref (ad (15, g, 0, 0))), (1, .int (zI x)), (2, .int (zI y)), (3, .int (zI v1))]) [1, 2, 3, 0] rfl ?_
  exact L2 _ v1  ⟨by omega, by rw [e1]⟩ (Nat.lt_succ_self _)
set_option maxHeartbeats 4000000 in
set_option maxRecDepth 100000 in
theorem c_X0_nextTimeFrom {l : Launch} {Δ : zDl} {ad : zK → Nat} {P : zP} {S : zS} {X : zMem} {g x y : Int} (hP : zWP P) (hg : 0 ≤ g ∧ g < P 3 0 0) (hW : zWS P S) (hx : 0 ≤ x ∧ x ≤ 9999) (hy : 1 ≤ y ∧ y ≤ 50) : zMn l Δ yX0_nextTimeFrom cX0_nextTimeFrom 5 (some .int) 4 0 0 [.ref (ad (15, g, 0, 0)), .int (zI x), .int (zI y)] ad (mm Δ ad P S X) (zD (some (.int (zI (lp (zng P S g x y) 0 (P 1 (P 4 g 0) 0) (-1))))) ad (mm Δ ad P S X)) := by
  refine zMn_of (by decide) (Nat.le_of_ble_eq_true rfl) (fun Γ hl hΔ hF => ?_)
  subst hl hΔ
  show G Γ _ _ _ RX0 _ _ _ _ _ [(0, .ref (ad (15, g, 0, 0))), (1, .int (zI x)), (2, .int (zI y))] []
  have hG := hP.g hg
  have hN := hP.t hG
  have hS := hW.R
  refine G_iconst (pc := 0) dX0_nextTimeFrom_0 ?_
  refine G_istore_ne (pc := 1) 3 (fun zw => [(3, .int (zI zw)), (0, .ref (ad (15, g, 0, 0))), (1, .int (zI x)), (2, .int (zI y))]) dX0_nextTimeFrom_1 rfl (by decide) (fun _ => rfl) (fun v1 e1 => ?_)
  refine G_iconst (pc := 2) dX0_nextTimeFrom_2 ?_
  refine G_istore_e (pc := 3) (fun zw => [(4, .int (zI zw)), (3, .int (zI v1)), (0, .ref (ad (15, g, 0, 0))), (1, .int (zI x)), (2, .int (zI y))]) dX0_nextTimeFrom_3 (by decide) (fun _ => rfl) (fun v3 e3 => ?_)
  have L5 : ∀ (n : Nat) (m : Int) (p : Int), (((0 ≤ p ∧ p ≤ P 1 (P 4 g 0) 0) ∧ (-1 ≤ m ∧ m ≤ 30000)) ∧ lp (zng P S g x y) p (P 1 (P 4 g 0) 0) m = lp (zng P S g x y) 0 (P 1 (P 4 g 0) 0) (-1)) → (P 1 (P 4 g 0) 0 - p).toNat < n → G Γ (zRm 4 0 0) cX0_nextTimeFrom 5 RX0 ad (mm (z_d Γ) ad P S X) 0 0 5 [(0, .ref (ad (15, g, 0, 0))), (1, .int (zI x)), (2, .int (zI y)), (3, .int (zI m)), (4, .int (zI p))] [] := by
    intro n
    induction n with
    | zero => intro m p _ hn; omega
    | succ n ih5 =>
      intro m p hi5 hn5
      refine G_iload (pc := 5) 4 dX0_nextTimeFrom_5 rfl ?_
      refine G_aload_n (pc := 7) 0 0 dX0_nextTimeFrom_7 rfl rfl ?_
      refine G_getf (pc := 8) fl_X0_23 dX0_nextTimeFrom_8 (mg_15 (by first | assumption | omega | exact ⟨by omega, by omega⟩ | exact hS _ _ | exact hT _ _)) rfl ?_
      refine G_alen (pc := 11) (t := 3) rfl dX0_nextTimeFrom_11 (mg_16 (by first | assumption | omega | exact ⟨by omega, by omega⟩ | exact hS _ _ | exact hT _ _)) ?_
      refine G_icmp_ge (pc := 12) 38 dX0_nextTimeFrom_12 (by decide) (by first | exact hS _ _ | exact hT _ _ | exact ⟨by omega, by omega⟩ | assumption) (by first | exact hS _ _ | exact hT _ _ | exact ⟨by omega, by omega⟩ | assumption) (fun c12 => ?_) (fun c12 => ?_)
      · refine G_iload_n (pc := 38) 3 3 dX0_nextTimeFrom_38 rfl rfl ?_
        exact G_iret_d (pc := 39) hF dX0_nextTimeFrom_39 ⟨Nat.le_of_ble_eq_true rfl, Nat.le_of_ble_eq_true rfl⟩ (by rw [← hi5.2, lp_end (by omega)])
      · refine G_iload_n (pc := 15) 3 3 dX0_nextTimeFrom_15 rfl rfl ?_
        refine G_aload_n (pc := 16) 0 0 dX0_nextTimeFrom_16 rfl rfl ?_
        refine G_getf (pc := 17) fl_X0_23 dX0_nextTimeFrom_17 (mg_15 (by first | assumption | omega | exact ⟨by omega, by omega⟩ | exact hS _ _ | exact hT _ _)) rfl ?_
        refine G_iload (pc := 20) 4 dX0_nextTimeFrom_20 rfl ?_
        refine G_aald (pc := 22) (t := 3) rfl dX0_nextTimeFrom_22 (mg_16 (by first | assumption | omega | exact ⟨by omega, by omega⟩ | exact hS _ _ | exact hT _ _)) ⟨by omega, by omega, by omega, by omega⟩ rfl ?_
        refine G_iload_n (pc := 23) 1 1 dX0_nextTimeFrom_23 rfl rfl ?_
        refine G_iload_n (pc := 24) 2 2 dX0_nextTimeFrom_24 rfl rfl ?_
        refine G_callVd (pc := 25) gk_X0_63 dX0_nextTimeFrom_25 (mg_18 (by first | assumption | omega | exact ⟨by omega, by omega⟩ | exact hS _ _ | exact hT _ _)) rfl (c_X4_nextTimeFrom (by first | assumption | omega | exact ⟨by omega, by omega⟩ | exact hS _ _ | exact hT _ _) (by first | assumption | omega | exact ⟨by omega, by omega⟩ | exact hS _ _ | exact hT _ _) (by first | assumption | omega | exact ⟨by omega, by omega⟩ | exact hS _ _ | exact hT _ _) (by first | assumption | omega | exact ⟨by omega, by omega⟩ | exact hS _ _ | exact hT _ _) (by first | assumption | omega | exact ⟨by omega, by omega⟩ | exact hS _ _ | exact hT _ _) (by first | assumption | omega | exact ⟨by omega, by omega⟩ | exact hS _ _ | exact hT _ _)) rfl rfl (Nat.le_of_ble_eq_true rfl) ⟨⟨Nat.le_of_ble_eq_true rfl, Nat.le_of_ble_eq_true rfl⟩, Nat.le_of_ble_eq_true rfl, Nat.le_of_ble_eq_true rfl⟩ ?_
        have hnt : -1 ≤ znt P S g x y p ∧ znt P S g x y p ≤ 30000 := znt_le hP hW hg ⟨hi5.1.1.1, by omega⟩ hx hy
        have hnu := hnt
        unfold znt at hnu
        refine G_callSd (pc := 28) gk_X0_66 dX0_nextTimeFrom_28 (c_X4_earlier (by first | assumption | omega | exact ⟨by omega, by omega⟩ | exact hS _ _ | exact hT _ _) (by first | assumption | omega | exact ⟨by omega, by omega⟩ | exact hS _ _ | exact hT _ _)) rfl rfl (Nat.le_of_ble_eq_true rfl) ⟨⟨Nat.le_of_ble_eq_true rfl, Nat.le_of_ble_eq_true rfl⟩, Nat.le_of_ble_eq_true rfl, Nat.le_of_ble_eq_true rfl⟩ ?_
        refine G_istore_ne (pc := 31) 3 (fun zw => [(3, .int (zI zw)), (0, .ref (ad (15, g, 0, 0))), (1, .int (zI x)), (2, .int (zI y)), (4, .int (zI p))]) dX0_nextTimeFrom_31 rfl (by decide) (fun _ => rfl) (fun v31 e31 => ?_)
        refine G_iinc_e (pc := 32) 4 (fun zw => [(4, .int (zI zw)), (3, .int (zI v31)), (0, .ref (ad (15, g, 0, 0))), (1, .int (zI x)), (2, .int (zI y))]) dX0_nextTimeFrom_32 rfl (by decide) (fun _ => rfl) (fun v32 e32 => ?_)
        refine G_goto (pc := 35) 5 dX0_nextTimeFrom_35 (by decide) ?_
        refine G_perm (lv' := [(0, .ref (ad (15, g, 0, 0))), (1, .int (zI x)), (2, .int (zI y)), (3, .int (zI v31)), (4, .int (zI v32))]) [2, 3, 4, 1, 0] rfl ?_
        exact ih5 v31 v32  ⟨by have := zer_le (a := m) (b := znt P S g x y p); unfold znt at this; omega, by rw [e32, ← hi5.2, lp_step (a := p) (n := P 1 (P 4 g 0) 0) (by omega), e31]; rfl⟩ (by omega)
  refine G_perm (lv' := [(0, .ref (ad (15, g, 0, 0))), (1, .int (zI x)), (2, .int (zI y)), (3, .int (zI v1)), (4, .int (zI v3))]) [2, 3, 4, 1, 0] rfl ?_
  exact L5 _ v1 v3  ⟨by omega, by rw [e1, e3]⟩ (Nat.lt_succ_self _)
set_option maxHeartbeats 4000000 in
set_option maxRecDepth 100000 in
theorem c_X1_write {l : Launch} {Δ : zDl} {ad : zK → Nat} {P : zP} {S : zS} {X : zMem} {a b c d e : Int} (hW : zWS P S) : zMn l Δ yX1_write cX1_write 7 none 1 0 0 [.ref (ad (1, 0, 0, 0)), .int (zI a), .int (zI b), .int (zI c), .int (zI d), .int (zI e)] ad (mm Δ ad P S X) (zD none ad (mm Δ ad P (zlw S a b c d e) X)) := by
  refine zMn_of (by decide) (Nat.le_of_ble_eq_true rfl) (fun Γ hl hΔ hF => ?_)
  subst hl hΔ
  show G Γ _ _ _ RX1 _ _ _ _ _ [(0, .ref (ad (1, 0, 0, 0))), (1, .int (zI a)), (2, .int (zI b)), (3, .int (zI c)), (4, .int (zI d)), (5, .int (zI e))] []
  have hl := hW.l
  have hS := hW.R
  refine G_aload_n (pc := 0) 0 0 dX1_write_0 rfl rfl ?_
  refine G_getf (pc := 1) fl_X1_15 dX1_write_1 mg_1 rfl ?_
  refine G_sipush (pc := 4) dX1_write_4 (by decide) ?_
  refine G_icmp_lt (pc := 7) 11 dX1_write_7 (by decide) (by first | exact hS _ _ | exact hT _ _ | exact ⟨by omega, by omega⟩ | assumption) (by first | exact hS _ _ | exact hT _ _ | exact ⟨by omega, by omega⟩ | assumption) (fun c7 => ?_) (fun c7 => ?_)
  · refine G_iconst (pc := 11) dX1_write_11 ?_
    refine G_aload_n (pc := 12) 0 0 dX1_write_12 rfl rfl ?_
    refine G_getf (pc := 13) fl_X1_15 dX1_write_13 mg_1 rfl ?_
    refine G_imul (pc := 16) dX1_write_16 ?_
    refine G_istore_e (pc := 17) (fun zw => [(6, .int (zI zw)), (0, .ref (ad (1, 0, 0, 0))), (1, .int (zI a)), (2, .int (zI b)), (3, .int (zI c)), (4, .int (zI d)), (5, .int (zI e))]) dX1_write_17 (by decide) (fun _ => rfl) (fun v17 e17 => ?_)
    refine G_aload_n (pc := 19) 0 1 dX1_write_19 rfl rfl ?_
    refine G_getf (pc := 20) fl_X1_11 dX1_write_20 mg_1 rfl ?_
    refine G_iload (pc := 23) 0 dX1_write_23 rfl ?_
    refine G_iload_n (pc := 25) 1 2 dX1_write_25 rfl rfl ?_
    refine G_iast (pc := 26) dX1_write_26 mg_2 ⟨by omega, by omega, by omega, by omega⟩ (mp_2 _ _) ?_
    refine G_name (fun S1_26 hS1_26 => ?_)
    refine G_aload_n (pc := 27) 0 1 dX1_write_27 rfl rfl ?_
    refine G_getf (pc := 28) fl_X1_11 dX1_write_28 mg_1 rfl ?_
    refine G_iload (pc := 31) 0 dX1_write_31 rfl ?_
    refine G_iconst (pc := 33) dX1_write_33 ?_
    refine G_iadd (pc := 34) dX1_write_34 ?_
    refine G_iload_n (pc := 35) 2 3 dX1_write_35 rfl rfl ?_
    refine G_iast (pc := 36) dX1_write_36 mg_2 ⟨by omega, by omega, by omega, by omega⟩ (mp_2 _ _) ?_
    refine G_name (fun S2_36 hS2_36 => ?_)
    refine G_aload_n (pc := 37) 0 1 dX1_write_37 rfl rfl ?_
    refine G_getf (pc := 38) fl_X1_11 dX1_write_38 mg_1 rfl ?_
    refine G_iload (pc := 41) 0 dX1_write_41 rfl ?_
    refine G_iconst (pc := 43) dX1_write_43 ?_
    refine G_iadd (pc := 44) dX1_write_44 ?_
    refine G_iload_n (pc := 45) 3 4 dX1_write_45 rfl rfl ?_
    refine G_iast (pc := 46) dX1_write_46 mg_2 ⟨by omega, by omega, by omega, by omega⟩ (mp_2 _ _) ?_
    refine G_name (fun S3_46 hS3_46 => ?_)
    refine G_aload_n (pc := 47) 0 1 dX1_write_47 rfl rfl ?_
    refine G_getf (pc := 48) fl_X1_11 dX1_write_48 mg_1 rfl ?_
    refine G_iload (pc := 51) 0 dX1_write_51 rfl ?_
    refine G_iconst (pc := 53) dX1_write_53 ?_
    refine G_iadd (pc := 54) dX1_write_54 ?_
    refine G_iload (pc := 55) 5 dX1_write_55 rfl ?_
    refine G_iast (pc := 57) dX1_write_57 mg_2 ⟨by omega, by omega, by omega, by omega⟩ (mp_2 _ _) ?_
    refine G_name (fun S4_57 hS4_57 => ?_)
    refine G_aload_n (pc := 58) 0 1 dX1_write_58 rfl rfl ?_
    refine G_getf (pc := 59) fl_X1_11 dX1_write_59 mg_1 rfl ?_
    refine G_iload (pc := 62) 0 dX1_write_62 rfl ?_
    refine G_iconst (pc := 64) dX1_write_64 ?_
    refine G_iadd (pc := 65) dX1_write_65 ?_
    refine G_iload (pc := 66) 6 dX1_write_66 rfl ?_
    refine G_iast (pc := 68) dX1_write_68 mg_2 ⟨by omega, by omega, by omega, by omega⟩ (mp_2 _ _) ?_
    refine G_name (fun S5_68 hS5_68 => ?_)
    refine G_aload_n (pc := 69) 0 1 dX1_write_69 rfl rfl ?_
    refine G_dup (pc := 70) dX1_write_70 rfl ?_
    refine G_getf (pc := 71) fl_X1_15 dX1_write_71 mg_1 rfl ?_
    refine G_iconst (pc := 74) dX1_write_74 ?_
    refine G_iadd (pc := 75) dX1_write_75 ?_
    refine G_putf (pc := 76) fl_X1_15 fp_X1_1 dX1_write_76 mg_1 (Nat.le_of_ble_eq_true rfl) rfl rfl (mp_1_1 _) ?_
    refine G_name (fun S6_76 hS6_76 => ?_)
    have hz7 : S6_76 = zlw S a b c d e := by unfold zlw; rw [if_neg (by omega), hS6_76, hS5_68, hS4_57, hS3_46, hS2_36, hS1_26, e17, zst_k _ _ _ _ (by simp), zst_k _ _ _ _ (by simp), zst_k _ _ _ _ (by simp), zst_k _ _ _ _ (by simp), zst_k _ _ _ _ (by simp)]
    exact G_vret_d (pc := 79) hF dX1_write_79 ⟨Nat.le_of_ble_eq_true rfl, Nat.le_of_ble_eq_true rfl⟩ (by rw [hz7])
  · exact G_vret_d (pc := 10) hF dX1_write_10 ⟨Nat.le_of_ble_eq_true rfl, Nat.le_of_ble_eq_true rfl⟩ (by unfold zlw; rw [if_pos (by omega)])
set_option maxHeartbeats 4000000 in
set_option maxRecDepth 100000 in
theorem c_X1_at {l : Launch} {Δ : zDl} {ad : zK → Nat} {P : zP} {S : zS} {X : zMem} {x w : Int} (hx : 0 ≤ x ∧ x < 200) (hw : 0 ≤ w ∧ w ≤ 4) : zMn l Δ yX1_at cX1_at 3 (some .int) 1 0 0 [.ref (ad (1, 0, 0, 0)), .int (zI x), .int (zI w)] ad (mm Δ ad P S X) (zD (some (.int (zI (S (2, 0, 0, 0) (5 * x + w))))) ad (mm Δ ad P S X)) := by
  refine zMn_of (by decide) (Nat.le_of_ble_eq_true rfl) (fun Γ hl hΔ hF => ?_)
  subst hl hΔ
  show G Γ _ _ _ RX1 _ _ _ _ _ [(0, .ref (ad (1, 0, 0, 0))), (1, .int (zI x)), (2, .int (zI w))] []
  refine G_aload_n (pc := 0) 0 0 dX1_at_0 rfl rfl ?_
  refine G_getf (pc := 1) fl_X1_11 dX1_at_1 mg_1 rfl ?_
  refine G_iconst (pc := 4) dX1_at_4 ?_
  refine G_iload_n (pc := 5) 1 1 dX1_at_5 rfl rfl ?_
  refine G_imul (pc := 6) dX1_at_6 ?_
  refine G_iload_n (pc := 7) 2 2 dX1_at_7 rfl rfl ?_
  refine G_iadd (pc := 8) dX1_at_8 ?_
  refine G_iald (pc := 9) dX1_at_9 mg_2 ⟨by omega, by omega, by omega, by omega⟩ ?_
  exact G_iret_d (pc := 10) hF dX1_at_10 ⟨Nat.le_of_ble_eq_true rfl, Nat.le_of_ble_eq_true rfl⟩ (by first | rfl | omega | simp_all)
