/-! ===== the Pier's constructor ===== -/
set_option maxHeartbeats 4000000 in
set_option maxRecDepth 100000 in
theorem c_X7_init {l : Launch} {Δ : zDl} {ad : zK → Nat} {M : zMem} {d : Int} (h200 : M (200, 0, 0, 0) = some (.inr (8, [.null, .null, .int (zI 0), .int (zI 0), .int (zI 0), .int (zI 0), .int (zI 0), .null, .null, .null, .null, .null, .int (zI 0), .null, .null, .int (zI 0), .null, .null, .null, .null, .null, .null]))) (hM : ∀ k : zK, k ≠ (200, 0, 0, 0) → M k = none) : zMn l Δ yX7_init cX7_init 3 none 11 60 2000 [.ref (ad (200, 0, 0, 0)), .ref Δ.2.2.2.1, .int (zI d)] ad M (fun v ad' M' => v = none ∧ ad' (200, 0, 0, 0) = ad (200, 0, 0, 0) ∧ M' = wld Δ ad' zP0 (zV0d d)) := by
  refine zMn_of (by decide) (Nat.le_of_ble_eq_true rfl) (fun Γ hl hΔ hF => ?_)
  subst hl hΔ
  show G Γ _ _ _ RX7 _ _ _ _ _ [(0, .ref (ad (200, 0, 0, 0))), (1, .ref (z_d Γ).2.2.2.1), (2, .int (zI d))] []
  refine G_aload_n (pc := 0) 0 0 dX7_init_0 rfl rfl ?_
  refine G_objInit (pc := 1) oi_X7_1 dX7_init_1 ⟨Nat.le_of_ble_eq_true rfl, Nat.le_of_ble_eq_true rfl⟩ ?_
  refine G_aload_n (pc := 4) 0 0 dX7_init_4 rfl rfl ?_
  refine G_new (pc := 5) (fs := [.null, .null, .null, .null, .int (zI 0), .int (zI 0), .int (zI 0), .int (zI 0), .int (zI 0)]) (0, 0, 0, 0) nw_X7_7 dX7_init_5 (hM _ (by simp)) (by decide) ⟨Nat.le_of_ble_eq_true rfl, Nat.le_of_ble_eq_true rfl⟩ (fun ad1 had1 => ?_)
  have e1 : ad1 (200, 0, 0, 0) = ad (200, 0, 0, 0) := had1 _ (by simp)
  rw [← e1]
  refine G_dup (pc := 8) dX7_init_8 rfl ?_
  refine G_callI (pc := 9) (mc := 5) (ms := 1012) gk_X7_9 dX7_init_9 (c_X6_initE (zup1_s _ _ _) ((zup1_n _ _ (by simp)).trans (hM _ (by simp))) ((zup1_n _ _ (by simp)).trans (hM _ (by simp))) ((zup1_n _ _ (by simp)).trans (hM _ (by simp))) ((zup1_n _ _ (by simp)).trans (hM _ (by simp))) ((zup1_n _ _ (by simp)).trans (hM _ (by simp)))) rfl rfl (Nat.le_of_ble_eq_true rfl) ⟨⟨Nat.le_of_ble_eq_true rfl, Nat.le_of_ble_eq_true rfl⟩, Nat.le_of_ble_eq_true rfl, Nat.le_of_ble_eq_true rfl⟩ (fun v ad2 M2 hpo => ?_)
  obtain ⟨rfl, ifr, i0, i1, i2, i3, i4, i6, iad⟩ := hpo
  have e2 : ad2 (200, 0, 0, 0) = ad1 (200, 0, 0, 0) := (ifr _ (by simp)).2
  have m2 := ((ifr (200, 0, 0, 0) (by simp)).1.trans (zup1_n _ _ (by simp))).trans h200
  rw [← iad, ← e2]
  refine G_putF (pc := 12) fl_X7_10 ff_X7_10 hF.2.1 dX7_init_12 m2 (Nat.le_of_ble_eq_true rfl) rfl rfl rfl ?_
  have key := mm_c0 (Δ := z_d Γ) (ad := ad2) (M := M2) (X := z00) (d := d) i0 i1 i2 i3 i4 i6
  refine G_ren (ad' := ad2) (M' := pI (fun _ => false) (z_d Γ) ad2 zP0 (zV0d d) [.ref (ad2 (0, 0, 0, 0)), .null, .int (zI 0), .int (zI 0), .int (zI 0), .int (zI 0), .int (zI 0), .null, .null, .null, .null, .null, .int (zI 0), .null, .null, .int (zI 0), .null, .null, .null, .null, .null, .null] (mm (z_d Γ) ad2 zP0 (zV0d d) z00)) (fun k => k) (fun k e hk => ⟨?_, rfl⟩) (fun k k' _ _ e => e) ?_
  · unfold pI at hk
    by_cases q : k = (200, 0, 0, 0)
    · subst q
      rw [if_pos rfl] at hk
      rw [zup1_s]
      exact hk
    · rw [if_neg q, if_neg (by simp)] at hk
      rw [zup1_n _ _ q]
      by_cases h80 : k.1 < 80
      · exact key k e h80 hk
      · rw [mm_ge _ h80] at hk
        cases hk
  · exact w_X7_init hF rfl (fun k hk => mm_ge _ (by omega)) (fun ad' hlo h9 => ⟨rfl, h9.trans (e2.trans e1), congrArg (pm (z_d Γ) ad' zP0 (zV0d d)) (mm_ad (fun k hk => hlo k (by omega))).symm⟩)
