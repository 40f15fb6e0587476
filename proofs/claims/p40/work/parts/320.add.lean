/-! ===== adding to a list, over any memory ===== -/
section NMM
variable {Γ : zCx} {R : Room} {cc : ByteArray} {nL : Nat} {own : String} {ad : zK → Nat} {M : zMem} {nc ns pc : Nat} {lv : List (Nat × Value)} {st : List Value}
theorem G_nm (kk : ∀ M', M' = M → G Γ R cc nL own ad M' nc ns pc lv st) : G Γ R cc nL own ad M nc ns pc lv st := kk M rfl
end NMM
set_option maxHeartbeats 4000000 in
set_option maxRecDepth 100000 in
theorem c_addA {l : Launch} {Δ : zDl} {ad : zK → Nat} {M : zMem} {ci : Nat} {r : vw_C} (hc : vwCl[ci]? = some r) (hca : Cond.castable r.1 "java/lang/Object" ∈ zNW) {kv : zK} {vs : List Value} (hv : M kv = some (.inr (ci, vs))) {kl ka : zK} {m n : Int} {c : Nat} {F : Int → Option Nat} (hne : kl ≠ ka) (hl0 : M kl = some (zLi m (ad ka) n)) (h0 : M ka = some (zOA Δ c F)) (hn : 0 ≤ n ∧ n < c ∧ c ≤ 200) : zMn l Δ yJx4a65c_add_72be8 cJx4a65c_add_72be8 4 none 7 1 150 [.ref (ad kl), .ref (ad kv), .ref (ad ka), .int (zI n)] ad M (fun v ad' M' => v = none ∧ ad' = ad ∧ M' = zup1 (zup1 M ka (some (zOA Δ c (zup F n (some (ad kv)))))) kl (some (zLi m (ad ka) (n + 1)))) := by
  refine zMn_of (by decide) (Nat.le_of_ble_eq_true rfl) (fun Γ hl hΔ hF => ?_)
  subst hl hΔ
  show G Γ _ _ _ RJx4a65c _ _ _ _ _ [(0, .ref (ad kl)), (1, .ref (ad kv)), (2, .ref (ad ka)), (3, .int (zI n))] []
  refine G_iload_n (pc := 0) 3 3 dJx4a65c_add_72be8_0 rfl rfl ?_
  refine G_aload_n (pc := 1) 2 2 dJx4a65c_add_72be8_1 rfl rfl ?_
  refine G_lenO (pc := 2) dJx4a65c_add_72be8_2 h0 ?_
  refine G_icmp_ne (pc := 3) 11 dJx4a65c_add_72be8_3 (by decide) ⟨by omega, by omega⟩ ⟨by omega, by omega⟩ (fun q => ?_) (fun q => absurd (show n = (c : Int) by omega) (by omega))
  refine G_aload_n (pc := 11) 2 2 dJx4a65c_add_72be8_11 rfl rfl ?_
  refine G_iload_n (pc := 12) 3 3 dJx4a65c_add_72be8_12 rfl rfl ?_
  refine G_aload_n (pc := 13) 1 1 dJx4a65c_add_72be8_13 rfl rfl ?_
  refine G_astO (pc := 14) hc hca dJx4a65c_add_72be8_14 h0 hv ⟨by omega, by omega, by omega, by omega⟩ rfl ?_
  refine G_aload_n (pc := 15) 0 0 dJx4a65c_add_72be8_15 rfl rfl ?_
  refine G_iload_n (pc := 16) 3 3 dJx4a65c_add_72be8_16 rfl rfl ?_
  refine G_iconst (pc := 17) dJx4a65c_add_72be8_17 ?_
  refine G_iadd (pc := 18) dJx4a65c_add_72be8_18 ?_
  refine G_putf (pc := 19) fl_Jx4a65c_48 fp_Jx4a65c_2 (fs := [.int (zI m), .ref (ad ka), .int (zI n)]) dJx4a65c_add_72be8_19 ((zup1_n _ _ hne).trans hl0) (Nat.le_of_ble_eq_true rfl) rfl rfl rfl ?_
  exact G_vret (pc := 22) hF dJx4a65c_add_72be8_22 ⟨Nat.le_of_ble_eq_true rfl, Nat.le_of_ble_eq_true rfl⟩ ⟨rfl, rfl, rfl⟩
set_option maxHeartbeats 4000000 in
set_option maxRecDepth 100000 in
theorem c_addB {l : Launch} {Δ : zDl} {ad : zK → Nat} {M : zMem} {ci : Nat} {r : vw_C} (hc : vwCl[ci]? = some r) (hca : Cond.castable r.1 "java/lang/Object" ∈ zNW) {kv : zK} {vs : List Value} (hv : M kv = some (.inr (ci, vs))) {kl ka : zK} {m : Int} {n : Nat} {F : Int → Option Nat} (hl0 : M kl = some (zLi m (ad ka) n)) (h0 : M ka = some (zOA Δ n F)) (hk : M (91, 0, 0, 0) = none) (hn : 1 ≤ n ∧ n ≤ 100) (hel : zEl M ad ci F n) (hvl : kv ≠ kl) (hF0 : (fun j => if 0 ≤ j ∧ j < (n : Int) then F j else none) = F) : zMn l Δ yJx4a65c_add_72be8 cJx4a65c_add_72be8 4 none 7 1 150 [.ref (ad kl), .ref (ad kv), .ref (ad ka), .int (zI (n : Int))] ad M (fun v ad' M' => v = none ∧ (∀ k, k ≠ (91, 0, 0, 0) → ad' k = ad k) ∧ M' = zup1 (zup1 M (91, 0, 0, 0) (some (zOA Δ (n + max 1 (n / 2)) (zup F n (some (ad kv)))))) kl (some (zLi m (ad' (91, 0, 0, 0)) ((n : Int) + 1)))) := by
  refine zMn_of (by decide) (Nat.le_of_ble_eq_true rfl) (fun Γ hl hΔ hF => ?_)
  subst hl hΔ
  show G Γ _ _ _ RJx4a65c _ _ _ _ _ [(0, .ref (ad kl)), (1, .ref (ad kv)), (2, .ref (ad ka)), (3, .int (zI (n : Int)))] []
  have nkl : kl ≠ (91, 0, 0, 0) := fun q => by rw [q, hk] at hl0; cases hl0
  have nkv : kv ≠ (91, 0, 0, 0) := fun q => by rw [q, hk] at hv; cases hv
  refine G_iload_n (pc := 0) 3 3 dJx4a65c_add_72be8_0 rfl rfl ?_
  refine G_aload_n (pc := 1) 2 2 dJx4a65c_add_72be8_1 rfl rfl ?_
  refine G_lenO (pc := 2) dJx4a65c_add_72be8_2 h0 ?_
  refine G_icmp_ne (pc := 3) 11 dJx4a65c_add_72be8_3 (by decide) ⟨by omega, by omega⟩ ⟨by omega, by omega⟩ (fun q => absurd rfl q) (fun q => ?_)
  refine G_aload_n (pc := 6) 0 0 dJx4a65c_add_72be8_6 rfl rfl ?_
  refine G_callV (pc := 7) gk_Jx4a65c_129 dJx4a65c_add_72be8_7 hl0 rfl (c_growB hc hca hl0 h0 hk hn hel) rfl rfl (Nat.le_of_ble_eq_true rfl) ⟨⟨Nat.le_of_ble_eq_true rfl, Nat.le_of_ble_eq_true rfl⟩, Nat.le_of_ble_eq_true rfl, Nat.le_of_ble_eq_true rfl⟩ (fun v ad1 M1 hpo => ?_)
  obtain ⟨rfl, had, hM1⟩ := hpo
  rw [hF0] at hM1
  show G Γ _ _ _ _ _ _ _ _ _ _ [.ref (ad1 (91, 0, 0, 0))]
  rw [← had kl nkl, ← had kv nkv]
  have f91 : M1 (91, 0, 0, 0) = some (zOA (z_d Γ) (n + max 1 (n / 2)) F) := by rw [hM1, zup1_n _ _ (Ne.symm nkl), zup1_s]
  have fkl : M1 kl = some (zLi m (ad1 (91, 0, 0, 0)) n) := by rw [hM1, zup1_s]
  have fkv : M1 kv = some (.inr (ci, vs)) := by rw [hM1, zup1_n _ _ hvl, zup1_n _ _ nkv]; exact hv
  refine G_astore_n (pc := 10) 2 [(2, .ref (ad1 (91, 0, 0, 0))), (0, .ref (ad1 kl)), (1, .ref (ad1 kv)), (3, .int (zI (n : Int)))] dJx4a65c_add_72be8_10 rfl (by decide) rfl ?_
  refine G_aload_n (pc := 11) 2 0 dJx4a65c_add_72be8_11 rfl rfl ?_
  refine G_iload_n (pc := 12) 3 3 dJx4a65c_add_72be8_12 rfl rfl ?_
  refine G_aload_n (pc := 13) 1 2 dJx4a65c_add_72be8_13 rfl rfl ?_
  refine G_astO (pc := 14) hc hca dJx4a65c_add_72be8_14 f91 fkv ⟨by omega, by omega, by omega, by omega⟩ rfl ?_
  refine G_aload_n (pc := 15) 0 1 dJx4a65c_add_72be8_15 rfl rfl ?_
  refine G_iload_n (pc := 16) 3 3 dJx4a65c_add_72be8_16 rfl rfl ?_
  refine G_iconst (pc := 17) dJx4a65c_add_72be8_17 ?_
  refine G_iadd (pc := 18) dJx4a65c_add_72be8_18 ?_
  refine G_putf (pc := 19) fl_Jx4a65c_48 fp_Jx4a65c_2 (fs := [.int (zI m), .ref (ad1 (91, 0, 0, 0)), .int (zI n)]) dJx4a65c_add_72be8_19 ((zup1_n _ _ nkl).trans fkl) (Nat.le_of_ble_eq_true rfl) rfl rfl rfl ?_
  refine G_vret (pc := 22) hF dJx4a65c_add_72be8_22 ⟨Nat.le_of_ble_eq_true rfl, Nat.le_of_ble_eq_true rfl⟩ ⟨rfl, had, ?_⟩
  rw [hM1, zuc _ nkl, zuu, zuu, had kv nkv]
  rfl

set_option maxHeartbeats 4000000 in
set_option maxRecDepth 100000 in
theorem c_addE {l : Launch} {Δ : zDl} {ad : zK → Nat} {M : zMem} {ci : Nat} {r : vw_C} (hc : vwCl[ci]? = some r) (hca : Cond.castable r.1 "java/lang/Object" ∈ zNW) {kv : zK} {vs : List Value} (hv : M kv = some (.inr (ci, vs))) {kl : zK} {m : Int} (hl0 : M kl = some (zLi m Δ.2.2.1 0)) (hk : M (91, 0, 0, 0) = none) (hvl : kv ≠ kl) : zMn l Δ yJx4a65c_add_72be8 cJx4a65c_add_72be8 4 none 7 1 150 [.ref (ad kl), .ref (ad kv), .ref Δ.2.2.1, .int (zI 0)] ad M (fun v ad' M' => v = none ∧ (∀ k, k ≠ (91, 0, 0, 0) → ad' k = ad k) ∧ M' = zup1 (zup1 M (91, 0, 0, 0) (some (zOA Δ 10 (zup (fun _ => none) 0 (some (ad kv)))))) kl (some (zLi m (ad' (91, 0, 0, 0)) (0 + 1)))) := by
  refine zMn_of (by decide) (Nat.le_of_ble_eq_true rfl) (fun Γ hl hΔ hF => ?_)
  subst hl hΔ
  show G Γ _ _ _ RJx4a65c _ _ _ _ _ [(0, .ref (ad kl)), (1, .ref (ad kv)), (2, .ref (z_d Γ).2.2.1), (3, .int (zI 0))] []
  have nkl : kl ≠ (91, 0, 0, 0) := fun q => by rw [q, hk] at hl0; cases hl0
  have nkv : kv ≠ (91, 0, 0, 0) := fun q => by rw [q, hk] at hv; cases hv
  refine G_iload_n (pc := 0) 3 3 dJx4a65c_add_72be8_0 rfl rfl ?_
  refine G_aload_n (pc := 1) 2 2 dJx4a65c_add_72be8_1 rfl rfl ?_
  refine G_lenD (pc := 2) dJx4a65c_add_72be8_2 ?_
  refine G_icmp_ne (pc := 3) 11 dJx4a65c_add_72be8_3 (by decide) ⟨by omega, by omega⟩ ⟨by omega, by omega⟩ (fun q => absurd rfl q) (fun q => ?_)
  refine G_aload_n (pc := 6) 0 0 dJx4a65c_add_72be8_6 rfl rfl ?_
  refine G_callV (pc := 7) gk_Jx4a65c_129 dJx4a65c_add_72be8_7 hl0 rfl (c_growA hl0 hk nkl) rfl rfl (Nat.le_of_ble_eq_true rfl) ⟨⟨Nat.le_of_ble_eq_true rfl, Nat.le_of_ble_eq_true rfl⟩, Nat.le_of_ble_eq_true rfl, Nat.le_of_ble_eq_true rfl⟩ (fun v ad1 M1 hpo => ?_)
  obtain ⟨rfl, had, hM1⟩ := hpo
  show G Γ _ _ _ _ _ _ _ _ _ _ [.ref (ad1 (91, 0, 0, 0))]
  rw [← had kl nkl, ← had kv nkv]
  have f91 : M1 (91, 0, 0, 0) = some (zOA (z_d Γ) 10 (fun _ => none)) := by rw [hM1, zup1_n _ _ (Ne.symm nkl), zup1_s]
  have fkl : M1 kl = some (zLi m (ad1 (91, 0, 0, 0)) 0) := by rw [hM1, zup1_s]
  have fkv : M1 kv = some (.inr (ci, vs)) := by rw [hM1, zup1_n _ _ hvl, zup1_n _ _ nkv]; exact hv
  refine G_astore_n (pc := 10) 2 [(2, .ref (ad1 (91, 0, 0, 0))), (0, .ref (ad1 kl)), (1, .ref (ad1 kv)), (3, .int (zI 0))] dJx4a65c_add_72be8_10 rfl (by decide) rfl ?_
  refine G_aload_n (pc := 11) 2 0 dJx4a65c_add_72be8_11 rfl rfl ?_
  refine G_iload_n (pc := 12) 3 3 dJx4a65c_add_72be8_12 rfl rfl ?_
  refine G_aload_n (pc := 13) 1 2 dJx4a65c_add_72be8_13 rfl rfl ?_
  refine G_astO (pc := 14) hc hca dJx4a65c_add_72be8_14 f91 fkv ⟨by decide, by decide, by decide, by decide⟩ rfl ?_
  refine G_aload_n (pc := 15) 0 1 dJx4a65c_add_72be8_15 rfl rfl ?_
  refine G_iload_n (pc := 16) 3 3 dJx4a65c_add_72be8_16 rfl rfl ?_
  refine G_iconst (pc := 17) dJx4a65c_add_72be8_17 ?_
  refine G_iadd (pc := 18) dJx4a65c_add_72be8_18 ?_
  refine G_putf (pc := 19) fl_Jx4a65c_48 fp_Jx4a65c_2 (fs := [.int (zI m), .ref (ad1 (91, 0, 0, 0)), .int (zI 0)]) dJx4a65c_add_72be8_19 ((zup1_n _ _ nkl).trans fkl) (Nat.le_of_ble_eq_true rfl) rfl rfl rfl ?_
  refine G_vret (pc := 22) hF dJx4a65c_add_72be8_22 ⟨Nat.le_of_ble_eq_true rfl, Nat.le_of_ble_eq_true rfl⟩ ⟨rfl, had, ?_⟩
  rw [hM1, zuc _ nkl, zuu, zuu, had kv nkv]
  rfl
/-- a list: empty and shared, or an array with room, or a full one -/
def zLst (Δ : zDl) (ad : zK → Nat) (M : zMem) (ci : Nat) (kl ka : zK) (m n : Int) (c : Nat) (F : Int → Option Nat) : Prop :=
  (c = 0 ∧ n = 0 ∧ M kl = some (zLi m Δ.2.2.1 0) ∧ F = fun _ => none) ∨ (0 < c ∧ M kl = some (zLi m (ad ka) n) ∧ M ka = some (zOA Δ c F) ∧ kl ≠ ka ∧ (0 ≤ n ∧ n ≤ c ∧ c ≤ 200) ∧ zEl M ad ci F n ∧ (fun j => if 0 ≤ j ∧ j < n then F j else none) = F)
set_option maxHeartbeats 4000000 in
set_option maxRecDepth 100000 in
theorem c_add {l : Launch} {Δ : zDl} {ad : zK → Nat} {M : zMem} {ci : Nat} {r : vw_C} (hc : vwCl[ci]? = some r) (hci : ¬ ci = 0) (hca : Cond.castable r.1 "java/lang/Object" ∈ zNW) {kv : zK} {vs : List Value} (hv : M kv = some (.inr (ci, vs))) {kl ka : zK} {m n : Int} {c : Nat} {F : Int → Option Nat} (hL : zLst Δ ad M ci kl ka m n c F) (hk : M (91, 0, 0, 0) = none) (hn : n < 80) (h91 : ka ≠ (91, 0, 0, 0)) : zMn l Δ yJx4a65c_add_9ea2d cJx4a65c_add_9ea2d 2 (some .boolean) 8 1 150 [.ref (ad kl), .ref (ad kv)] ad M (fun v ad' M' => v = some (.int (zI 1)) ∧ (∀ k, k ≠ (91, 0, 0, 0) → ad' k = ad k) ∧ ∃ (kb : zK) (c' : Nat), (kb = ka ∧ c' = c ∧ 0 < c ∨ kb = (91, 0, 0, 0) ∧ M (91, 0, 0, 0) = none) ∧ (n < c' ∧ c' ≤ 200) ∧ M' = zup1 (zup1 M kb (some (zOA Δ c' (zup F n (some (ad kv)))))) kl (some (zLi (m + 1) (ad' kb) (n + 1)))) := by
  refine zMn_of (by decide) (Nat.le_of_ble_eq_true rfl) (fun Γ hl hΔ hF => ?_)
  subst hl hΔ
  show G Γ _ _ _ RJx4a65c _ _ _ _ _ [(0, .ref (ad kl)), (1, .ref (ad kv))] []
  rcases hL with ⟨rfl, rfl, hl0, rfl⟩ | ⟨hc0, hl0, h0, hne, ⟨n0, n1, n2⟩, hel, hF0⟩
  · have hvl : kv ≠ kl := fun q => by rw [q, hl0] at hv; exact hci (by injection hv with h1; injection h1 with h2; injection h2 with h3 h4; exact h3.symm)
    refine G_aload_n (pc := 0) 0 0 dJx4a65c_add_9ea2d_0 rfl rfl ?_
    refine G_dup (pc := 1) dJx4a65c_add_9ea2d_1 rfl ?_
    refine G_getf (pc := 2) fl_Jx4a65c_63 dJx4a65c_add_9ea2d_2 hl0 rfl ?_
    refine G_iconst (pc := 5) dJx4a65c_add_9ea2d_5 ?_
    refine G_iadd (pc := 6) dJx4a65c_add_9ea2d_6 ?_
    refine G_putf (pc := 7) fl_Jx4a65c_63 fp_Jx4a65c_0 (fs := [.int (zI m), .ref ((z_d Γ).2.2.1), .int (zI 0)]) dJx4a65c_add_9ea2d_7 hl0 (Nat.le_of_ble_eq_true rfl) rfl rfl rfl ?_
    refine G_nm (fun M0 hM0 => ?_)
    have fl0 : M0 kl = some (zLi (m + 1) ((z_d Γ).2.2.1) 0) := by rw [hM0]; exact zup1_s _ _ _
    have fv0 : M0 kv = some (.inr (ci, vs)) := by rw [hM0, zup1_n _ _ hvl]; exact hv
    have nkl : kl ≠ (91, 0, 0, 0) := fun q => by rw [q, hk] at hl0; cases hl0
    have fk0 : M0 (91, 0, 0, 0) = none := by rw [hM0, zup1_n _ _ (Ne.symm nkl)]; exact hk
    refine G_aload_n (pc := 10) 0 0 dJx4a65c_add_9ea2d_10 rfl rfl ?_
    refine G_aload_n (pc := 11) 1 1 dJx4a65c_add_9ea2d_11 rfl rfl ?_
    refine G_aload_n (pc := 12) 0 0 dJx4a65c_add_9ea2d_12 rfl rfl ?_
    refine G_getf (pc := 13) fl_Jx4a65c_9 dJx4a65c_add_9ea2d_13 fl0 rfl ?_
    refine G_aload_n (pc := 16) 0 0 dJx4a65c_add_9ea2d_16 rfl rfl ?_
    refine G_getf (pc := 17) fl_Jx4a65c_48 dJx4a65c_add_9ea2d_17 fl0 rfl ?_
    refine G_callV (pc := 20) gk_Jx4a65c_131 dJx4a65c_add_9ea2d_20 fl0 rfl (c_addE hc hca fv0 fl0 fk0 hvl) rfl rfl (Nat.le_of_ble_eq_true rfl) ⟨⟨Nat.le_of_ble_eq_true rfl, Nat.le_of_ble_eq_true rfl⟩, Nat.le_of_ble_eq_true rfl, Nat.le_of_ble_eq_true rfl⟩ (fun v ad1 M1 hpo => ?_)
    obtain ⟨rfl, had, hM1⟩ := hpo
    refine G_iconst (pc := 23) dJx4a65c_add_9ea2d_23 ?_
    refine G_zret (pc := 24) hF dJx4a65c_add_9ea2d_24 ⟨Nat.le_of_ble_eq_true rfl, Nat.le_of_ble_eq_true rfl⟩ (Or.inr rfl) ⟨rfl, had, (91, 0, 0, 0), 10, Or.inr ⟨rfl, hk⟩, ⟨by omega, by omega⟩, ?_⟩
    rw [hM1, hM0, zuc _ nkl, zuu]
  · have hvl : kv ≠ kl := fun q => by rw [q, hl0] at hv; exact hci (by injection hv with h1; injection h1 with h2; injection h2 with h3 h4; exact h3.symm)
    by_cases hlt : n < c
    · refine G_aload_n (pc := 0) 0 0 dJx4a65c_add_9ea2d_0 rfl rfl ?_
      refine G_dup (pc := 1) dJx4a65c_add_9ea2d_1 rfl ?_
      refine G_getf (pc := 2) fl_Jx4a65c_63 dJx4a65c_add_9ea2d_2 hl0 rfl ?_
      refine G_iconst (pc := 5) dJx4a65c_add_9ea2d_5 ?_
      refine G_iadd (pc := 6) dJx4a65c_add_9ea2d_6 ?_
      refine G_putf (pc := 7) fl_Jx4a65c_63 fp_Jx4a65c_0 (fs := [.int (zI m), .ref (ad ka), .int (zI n)]) dJx4a65c_add_9ea2d_7 hl0 (Nat.le_of_ble_eq_true rfl) rfl rfl rfl ?_
      refine G_nm (fun M0 hM0 => ?_)
      have fl0 : M0 kl = some (zLi (m + 1) (ad ka) n) := by rw [hM0]; exact zup1_s _ _ _
      have fv0 : M0 kv = some (.inr (ci, vs)) := by rw [hM0, zup1_n _ _ hvl]; exact hv
      have fa0 : M0 ka = some (zOA (z_d Γ) c F) := by rw [hM0, zup1_n _ _ (Ne.symm hne)]; exact h0
      refine G_aload_n (pc := 10) 0 0 dJx4a65c_add_9ea2d_10 rfl rfl ?_
      refine G_aload_n (pc := 11) 1 1 dJx4a65c_add_9ea2d_11 rfl rfl ?_
      refine G_aload_n (pc := 12) 0 0 dJx4a65c_add_9ea2d_12 rfl rfl ?_
      refine G_getf (pc := 13) fl_Jx4a65c_9 dJx4a65c_add_9ea2d_13 fl0 rfl ?_
      refine G_aload_n (pc := 16) 0 0 dJx4a65c_add_9ea2d_16 rfl rfl ?_
      refine G_getf (pc := 17) fl_Jx4a65c_48 dJx4a65c_add_9ea2d_17 fl0 rfl ?_
      refine G_callV (pc := 20) gk_Jx4a65c_131 dJx4a65c_add_9ea2d_20 fl0 rfl (c_addA hc hca fv0 hne fl0 fa0 ⟨n0, hlt, n2⟩) rfl rfl (Nat.le_of_ble_eq_true rfl) ⟨⟨Nat.le_of_ble_eq_true rfl, Nat.le_of_ble_eq_true rfl⟩, Nat.le_of_ble_eq_true rfl, Nat.le_of_ble_eq_true rfl⟩ (fun v ad1 M1 hpo => ?_)
      obtain ⟨rfl, had, hM1⟩ := hpo
      refine G_iconst (pc := 23) dJx4a65c_add_9ea2d_23 ?_
      refine G_zret (pc := 24) hF dJx4a65c_add_9ea2d_24 ⟨Nat.le_of_ble_eq_true rfl, Nat.le_of_ble_eq_true rfl⟩ (Or.inr rfl) ⟨rfl, fun k _ => by rw [had], ka, c, Or.inl ⟨rfl, rfl, hc0⟩, ⟨hlt, n2⟩, ?_⟩
      rw [hM1, hM0, had, zuc _ hne, zuu]
    · obtain rfl : n = (c : Int) := by omega
      refine G_aload_n (pc := 0) 0 0 dJx4a65c_add_9ea2d_0 rfl rfl ?_
      refine G_dup (pc := 1) dJx4a65c_add_9ea2d_1 rfl ?_
      refine G_getf (pc := 2) fl_Jx4a65c_63 dJx4a65c_add_9ea2d_2 hl0 rfl ?_
      refine G_iconst (pc := 5) dJx4a65c_add_9ea2d_5 ?_
      refine G_iadd (pc := 6) dJx4a65c_add_9ea2d_6 ?_
      refine G_putf (pc := 7) fl_Jx4a65c_63 fp_Jx4a65c_0 (fs := [.int (zI m), .ref (ad ka), .int (zI (c : Int))]) dJx4a65c_add_9ea2d_7 hl0 (Nat.le_of_ble_eq_true rfl) rfl rfl rfl ?_
      refine G_nm (fun M0 hM0 => ?_)
      have fl0 : M0 kl = some (zLi (m + 1) (ad ka) (c : Int)) := by rw [hM0]; exact zup1_s _ _ _
      have fv0 : M0 kv = some (.inr (ci, vs)) := by rw [hM0, zup1_n _ _ hvl]; exact hv
      have nkl : kl ≠ (91, 0, 0, 0) := fun q => by rw [q, hk] at hl0; cases hl0
      have fk0 : M0 (91, 0, 0, 0) = none := by rw [hM0, zup1_n _ _ (Ne.symm nkl)]; exact hk
      have fa0 : M0 ka = some (zOA (z_d Γ) c F) := by rw [hM0, zup1_n _ _ (Ne.symm hne)]; exact h0
      have hel0 : zEl M0 ad ci F c := fun i i0 i1 => by
        obtain ⟨k, ws, e1, e2⟩ := hel i i0 i1
        exact ⟨k, ws, e1, by rw [hM0, zup1_n _ _ (fun q => by rw [q, hl0] at e2; exact hci (by injection e2 with h1; injection h1 with h2; injection h2 with h3 h4; exact h3.symm))]; exact e2⟩
      refine G_aload_n (pc := 10) 0 0 dJx4a65c_add_9ea2d_10 rfl rfl ?_
      refine G_aload_n (pc := 11) 1 1 dJx4a65c_add_9ea2d_11 rfl rfl ?_
      refine G_aload_n (pc := 12) 0 0 dJx4a65c_add_9ea2d_12 rfl rfl ?_
      refine G_getf (pc := 13) fl_Jx4a65c_9 dJx4a65c_add_9ea2d_13 fl0 rfl ?_
      refine G_aload_n (pc := 16) 0 0 dJx4a65c_add_9ea2d_16 rfl rfl ?_
      refine G_getf (pc := 17) fl_Jx4a65c_48 dJx4a65c_add_9ea2d_17 fl0 rfl ?_
      refine G_callV (pc := 20) gk_Jx4a65c_131 dJx4a65c_add_9ea2d_20 fl0 rfl (c_addB hc hca fv0 fl0 fa0 fk0 ⟨by omega, by omega⟩ hel0 hvl hF0) rfl rfl (Nat.le_of_ble_eq_true rfl) ⟨⟨Nat.le_of_ble_eq_true rfl, Nat.le_of_ble_eq_true rfl⟩, Nat.le_of_ble_eq_true rfl, Nat.le_of_ble_eq_true rfl⟩ (fun v ad1 M1 hpo => ?_)
      obtain ⟨rfl, had, hM1⟩ := hpo
      refine G_iconst (pc := 23) dJx4a65c_add_9ea2d_23 ?_
      refine G_zret (pc := 24) hF dJx4a65c_add_9ea2d_24 ⟨Nat.le_of_ble_eq_true rfl, Nat.le_of_ble_eq_true rfl⟩ (Or.inr rfl) ⟨rfl, had, (91, 0, 0, 0), c + max 1 (c / 2), Or.inr ⟨rfl, hk⟩, ⟨by omega, by omega⟩, ?_⟩
      rw [hM1, hM0, zuc _ nkl, zuu]
