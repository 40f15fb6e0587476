/-! ===== the class's constructor, the object stays where it is (the claim whole's row, by text) ===== -/
set_option maxHeartbeats 4000000 in
set_option maxRecDepth 100000 in
theorem c_X6_initE {l : Launch} {Δ : zDl} {ad : zK → Nat} {M : zMem}  (h0 : M (0, 0, 0, 0) = some (.inr (7, [.null, .null, .null, .null, .int (zI 0), .int (zI 0), .int (zI 0), .int (zI 0), .int (zI 0)]))) (h1 : M (1, 0, 0, 0) = none) (h2 : M (2, 0, 0, 0) = none) (h3 : M (3, 0, 0, 0) = none) (h4 : M (4, 0, 0, 0) = none) (h6 : M (6, 0, 0, 0) = none) : zMn l Δ yX6_init cX6_init 1 none 9 5 1012 [.ref (ad (0, 0, 0, 0))] ad M (fun v ad' M' => v = none ∧ (∀ k, ¬ (k = (0, 0, 0, 0) ∨ k = (1, 0, 0, 0) ∨ k = (2, 0, 0, 0) ∨ k = (3, 0, 0, 0) ∨ k = (4, 0, 0, 0) ∨ k = (6, 0, 0, 0)) → M' k = M k ∧ ad' k = ad k) ∧ M' (0, 0, 0, 0) = some (.inr (7, [.ref (ad' (4, 0, 0, 0)), .ref (ad' (6, 0, 0, 0)), .ref (ad' (1, 0, 0, 0)), .ref (ad' (3, 0, 0, 0)), .int (zI 0), .int (zI 0), .int (zI 0), .int (zI 2), .int (zI 10)])) ∧ M' (1, 0, 0, 0) = some (.inr (2, [.ref (ad' (2, 0, 0, 0)), .int (zI 0)])) ∧ M' (2, 0, 0, 0) = some (.inl (Δ.2.1 0, 1000, .inl (zAi (fun _ => 0)))) ∧ M' (3, 0, 0, 0) = some (.inl (Δ.2.1 1, 4, .inl (zAi (fun _ => 0)))) ∧ M' (4, 0, 0, 0) = some (zLi 0 Δ.2.2.1 0) ∧ M' (6, 0, 0, 0) = some (zLi 0 Δ.2.2.1 0) ∧ ad' (0, 0, 0, 0) = ad (0, 0, 0, 0)) := by
  refine zMn_of (by decide) (Nat.le_of_ble_eq_true rfl) (fun Γ hl hΔ hF => ?_)
  subst hl hΔ
  show G Γ _ _ _ RX6 _ _ _ _ _ [(0, .ref (ad (0, 0, 0, 0)))] []
  have fr0 : ∀ k, ¬ (k = (0, 0, 0, 0) ∨ k = (1, 0, 0, 0) ∨ k = (2, 0, 0, 0) ∨ k = (3, 0, 0, 0) ∨ k = (4, 0, 0, 0) ∨ k = (6, 0, 0, 0)) → M k = M k ∧ ad k = ad k := fun _ _ => ⟨rfl, rfl⟩
  refine G_aload_n (pc := 0) 0 0 dX6_init_0 rfl rfl ?_
  refine G_objInit (pc := 1) oi_X6_1 dX6_init_1 ⟨Nat.le_of_ble_eq_true rfl, Nat.le_of_ble_eq_true rfl⟩ ?_
  refine G_aload_n (pc := 4) 0 0 dX6_init_4 rfl rfl ?_
  refine G_new (pc := 5) (fs := [.int (zI 0), .null, .int (zI 0)]) (4, 0, 0, 0) nw_X6_7 dX6_init_5 h4 (by decide) ⟨Nat.le_of_ble_eq_true rfl, Nat.le_of_ble_eq_true rfl⟩ (fun ad1 had1 => ?_)
  have e2_0 := had1 (0, 0, 0, 0) (by simp)
  rw [← e2_0]
  have fr2 : ∀ k, ¬ (k = (0, 0, 0, 0) ∨ k = (1, 0, 0, 0) ∨ k = (2, 0, 0, 0) ∨ k = (3, 0, 0, 0) ∨ k = (4, 0, 0, 0) ∨ k = (6, 0, 0, 0)) → M k = M k ∧ ad1 k = ad k := fun k hk => ⟨(fr0 k hk).1, by rw [had1 k (fun q => hk (by simp [q]))] <;> exact (fr0 k hk).2⟩
  refine G_nm (fun M3 hM3 => ?_)
  have f3_0 : M3 (0, 0, 0, 0) = some (.inr (7, [.null, .null, .null, .null, .int (zI 0), .int (zI 0), .int (zI 0), .int (zI 0), .int (zI 0)])) := by rw [hM3, zup1_n _ _ (by simp)]; exact h0
  have g3_0 : M3 (1, 0, 0, 0) = none := by rw [hM3, zup1_n _ _ (by simp)]; exact h1
  have g3_1 : M3 (2, 0, 0, 0) = none := by rw [hM3, zup1_n _ _ (by simp)]; exact h2
  have g3_2 : M3 (3, 0, 0, 0) = none := by rw [hM3, zup1_n _ _ (by simp)]; exact h3
  have g3_3 : M3 (6, 0, 0, 0) = none := by rw [hM3, zup1_n _ _ (by simp)]; exact h6
  have f3 : M3 (4, 0, 0, 0) = some (.inr (0, [.int (zI 0), .null, .int (zI 0)])) := by rw [hM3]; exact zup1_s _ _ _
  have fr3 : ∀ k, ¬ (k = (0, 0, 0, 0) ∨ k = (1, 0, 0, 0) ∨ k = (2, 0, 0, 0) ∨ k = (3, 0, 0, 0) ∨ k = (4, 0, 0, 0) ∨ k = (6, 0, 0, 0)) → M3 k = M k ∧ ad1 k = ad k := fun k hk => ⟨by rw [hM3, zup1_n _ _ (fun q => hk (by simp [q]))] <;> exact (fr2 k hk).1, (fr2 k hk).2⟩
  refine G_dup (pc := 8) dX6_init_8 rfl ?_
  refine G_callIv (pc := 9) gk_X6_9 dX6_init_9 (c_Jx4a65c_init_da8c8 f3) rfl rfl (Nat.le_of_ble_eq_true rfl) ⟨⟨Nat.le_of_ble_eq_true rfl, Nat.le_of_ble_eq_true rfl⟩, Nat.le_of_ble_eq_true rfl, Nat.le_of_ble_eq_true rfl⟩ ?_
  refine G_nm (fun M4 hM4 => ?_)
  have f4_0 : M4 (0, 0, 0, 0) = some (.inr (7, [.null, .null, .null, .null, .int (zI 0), .int (zI 0), .int (zI 0), .int (zI 0), .int (zI 0)])) := by rw [hM4, zup1_n _ _ (by simp)]; exact f3_0
  have g4_0 : M4 (1, 0, 0, 0) = none := by rw [hM4, zup1_n _ _ (by simp)]; exact g3_0
  have g4_1 : M4 (2, 0, 0, 0) = none := by rw [hM4, zup1_n _ _ (by simp)]; exact g3_1
  have g4_2 : M4 (3, 0, 0, 0) = none := by rw [hM4, zup1_n _ _ (by simp)]; exact g3_2
  have g4_3 : M4 (6, 0, 0, 0) = none := by rw [hM4, zup1_n _ _ (by simp)]; exact g3_3
  have f4 : M4 (4, 0, 0, 0) = some (zLi 0 (z_d Γ).2.2.1 0) := by rw [hM4]; exact zup1_s _ _ _
  have fr4 : ∀ k, ¬ (k = (0, 0, 0, 0) ∨ k = (1, 0, 0, 0) ∨ k = (2, 0, 0, 0) ∨ k = (3, 0, 0, 0) ∨ k = (4, 0, 0, 0) ∨ k = (6, 0, 0, 0)) → M4 k = M k ∧ ad1 k = ad k := fun k hk => ⟨by rw [hM4, zup1_n _ _ (fun q => hk (by simp [q]))] <;> exact (fr3 k hk).1, (fr3 k hk).2⟩
  refine G_putF (pc := 12) fl_X6_10 ff_X6_10 hF.2.1 dX6_init_12 f4_0 (Nat.le_of_ble_eq_true rfl) rfl rfl rfl ?_
  refine G_nm (fun M5 hM5 => ?_)
  have f5_1 : M5 (4, 0, 0, 0) = some (zLi 0 (z_d Γ).2.2.1 0) := by rw [hM5, zup1_n _ _ (by simp)]; exact f4
  have g5_0 : M5 (1, 0, 0, 0) = none := by rw [hM5, zup1_n _ _ (by simp)]; exact g4_0
  have g5_1 : M5 (2, 0, 0, 0) = none := by rw [hM5, zup1_n _ _ (by simp)]; exact g4_1
  have g5_2 : M5 (3, 0, 0, 0) = none := by rw [hM5, zup1_n _ _ (by simp)]; exact g4_2
  have g5_3 : M5 (6, 0, 0, 0) = none := by rw [hM5, zup1_n _ _ (by simp)]; exact g4_3
  have f5 : M5 (0, 0, 0, 0) = some (.inr (7, [.ref (ad1 (4, 0, 0, 0)), .null, .null, .null, .int (zI 0), .int (zI 0), .int (zI 0), .int (zI 0), .int (zI 0)])) := by rw [hM5]; exact zup1_s _ _ _
  have fr5 : ∀ k, ¬ (k = (0, 0, 0, 0) ∨ k = (1, 0, 0, 0) ∨ k = (2, 0, 0, 0) ∨ k = (3, 0, 0, 0) ∨ k = (4, 0, 0, 0) ∨ k = (6, 0, 0, 0)) → M5 k = M k ∧ ad1 k = ad k := fun k hk => ⟨by rw [hM5, zup1_n _ _ (fun q => hk (by simp [q]))] <;> exact (fr4 k hk).1, (fr4 k hk).2⟩
  refine G_aload_n (pc := 15) 0 0 dX6_init_15 rfl rfl ?_
  refine G_new (pc := 16) (fs := [.int (zI 0), .null, .int (zI 0)]) (6, 0, 0, 0) nw_X6_7 dX6_init_16 g5_3 (by decide) ⟨Nat.le_of_ble_eq_true rfl, Nat.le_of_ble_eq_true rfl⟩ (fun ad6 had6 => ?_)
  have e7_0 := had6 (0, 0, 0, 0) (by simp)
  have e7_1 := had6 (4, 0, 0, 0) (by simp)
  rw [← e7_1] at f5
  rw [← e7_0]
  have fr7 : ∀ k, ¬ (k = (0, 0, 0, 0) ∨ k = (1, 0, 0, 0) ∨ k = (2, 0, 0, 0) ∨ k = (3, 0, 0, 0) ∨ k = (4, 0, 0, 0) ∨ k = (6, 0, 0, 0)) → M5 k = M k ∧ ad6 k = ad k := fun k hk => ⟨(fr5 k hk).1, by rw [had6 k (fun q => hk (by simp [q]))] <;> exact (fr5 k hk).2⟩
  refine G_nm (fun M8 hM8 => ?_)
  have f8_0 : M8 (0, 0, 0, 0) = some (.inr (7, [.ref (ad6 (4, 0, 0, 0)), .null, .null, .null, .int (zI 0), .int (zI 0), .int (zI 0), .int (zI 0), .int (zI 0)])) := by rw [hM8, zup1_n _ _ (by simp)]; exact f5
  have f8_1 : M8 (4, 0, 0, 0) = some (zLi 0 (z_d Γ).2.2.1 0) := by rw [hM8, zup1_n _ _ (by simp)]; exact f5_1
  have g8_0 : M8 (1, 0, 0, 0) = none := by rw [hM8, zup1_n _ _ (by simp)]; exact g5_0
  have g8_1 : M8 (2, 0, 0, 0) = none := by rw [hM8, zup1_n _ _ (by simp)]; exact g5_1
  have g8_2 : M8 (3, 0, 0, 0) = none := by rw [hM8, zup1_n _ _ (by simp)]; exact g5_2
  have f8 : M8 (6, 0, 0, 0) = some (.inr (0, [.int (zI 0), .null, .int (zI 0)])) := by rw [hM8]; exact zup1_s _ _ _
  have fr8 : ∀ k, ¬ (k = (0, 0, 0, 0) ∨ k = (1, 0, 0, 0) ∨ k = (2, 0, 0, 0) ∨ k = (3, 0, 0, 0) ∨ k = (4, 0, 0, 0) ∨ k = (6, 0, 0, 0)) → M8 k = M k ∧ ad6 k = ad k := fun k hk => ⟨by rw [hM8, zup1_n _ _ (fun q => hk (by simp [q]))] <;> exact (fr7 k hk).1, (fr7 k hk).2⟩
  refine G_dup (pc := 19) dX6_init_19 rfl ?_
  refine G_callIv (pc := 20) gk_X6_9 dX6_init_20 (c_Jx4a65c_init_da8c8 f8) rfl rfl (Nat.le_of_ble_eq_true rfl) ⟨⟨Nat.le_of_ble_eq_true rfl, Nat.le_of_ble_eq_true rfl⟩, Nat.le_of_ble_eq_true rfl, Nat.le_of_ble_eq_true rfl⟩ ?_
  refine G_nm (fun M9 hM9 => ?_)
  have f9_0 : M9 (0, 0, 0, 0) = some (.inr (7, [.ref (ad6 (4, 0, 0, 0)), .null, .null, .null, .int (zI 0), .int (zI 0), .int (zI 0), .int (zI 0), .int (zI 0)])) := by rw [hM9, zup1_n _ _ (by simp)]; exact f8_0
  have f9_1 : M9 (4, 0, 0, 0) = some (zLi 0 (z_d Γ).2.2.1 0) := by rw [hM9, zup1_n _ _ (by simp)]; exact f8_1
  have g9_0 : M9 (1, 0, 0, 0) = none := by rw [hM9, zup1_n _ _ (by simp)]; exact g8_0
  have g9_1 : M9 (2, 0, 0, 0) = none := by rw [hM9, zup1_n _ _ (by simp)]; exact g8_1
  have g9_2 : M9 (3, 0, 0, 0) = none := by rw [hM9, zup1_n _ _ (by simp)]; exact g8_2
  have f9 : M9 (6, 0, 0, 0) = some (zLi 0 (z_d Γ).2.2.1 0) := by rw [hM9]; exact zup1_s _ _ _
  have fr9 : ∀ k, ¬ (k = (0, 0, 0, 0) ∨ k = (1, 0, 0, 0) ∨ k = (2, 0, 0, 0) ∨ k = (3, 0, 0, 0) ∨ k = (4, 0, 0, 0) ∨ k = (6, 0, 0, 0)) → M9 k = M k ∧ ad6 k = ad k := fun k hk => ⟨by rw [hM9, zup1_n _ _ (fun q => hk (by simp [q]))] <;> exact (fr8 k hk).1, (fr8 k hk).2⟩
  refine G_putF (pc := 23) fl_X6_16 ff_X6_16 hF.2.1 dX6_init_23 f9_0 (Nat.le_of_ble_eq_true rfl) rfl rfl rfl ?_
  refine G_nm (fun M10 hM10 => ?_)
  have f10_1 : M10 (4, 0, 0, 0) = some (zLi 0 (z_d Γ).2.2.1 0) := by rw [hM10, zup1_n _ _ (by simp)]; exact f9_1
  have f10_2 : M10 (6, 0, 0, 0) = some (zLi 0 (z_d Γ).2.2.1 0) := by rw [hM10, zup1_n _ _ (by simp)]; exact f9
  have g10_0 : M10 (1, 0, 0, 0) = none := by rw [hM10, zup1_n _ _ (by simp)]; exact g9_0
  have g10_1 : M10 (2, 0, 0, 0) = none := by rw [hM10, zup1_n _ _ (by simp)]; exact g9_1
  have g10_2 : M10 (3, 0, 0, 0) = none := by rw [hM10, zup1_n _ _ (by simp)]; exact g9_2
  have f10 : M10 (0, 0, 0, 0) = some (.inr (7, [.ref (ad6 (4, 0, 0, 0)), .ref (ad6 (6, 0, 0, 0)), .null, .null, .int (zI 0), .int (zI 0), .int (zI 0), .int (zI 0), .int (zI 0)])) := by rw [hM10]; exact zup1_s _ _ _
  have fr10 : ∀ k, ¬ (k = (0, 0, 0, 0) ∨ k = (1, 0, 0, 0) ∨ k = (2, 0, 0, 0) ∨ k = (3, 0, 0, 0) ∨ k = (4, 0, 0, 0) ∨ k = (6, 0, 0, 0)) → M10 k = M k ∧ ad6 k = ad k := fun k hk => ⟨by rw [hM10, zup1_n _ _ (fun q => hk (by simp [q]))] <;> exact (fr9 k hk).1, (fr9 k hk).2⟩
  refine G_aload_n (pc := 26) 0 0 dX6_init_26 rfl rfl ?_
  refine G_new (pc := 27) (fs := [.null, .int (zI 0)]) (1, 0, 0, 0) nw_X6_19 dX6_init_27 g10_0 (by decide) ⟨Nat.le_of_ble_eq_true rfl, Nat.le_of_ble_eq_true rfl⟩ (fun ad11 had11 => ?_)
  have e12_0 := had11 (0, 0, 0, 0) (by simp)
  have e12_1 := had11 (4, 0, 0, 0) (by simp)
  have e12_2 := had11 (6, 0, 0, 0) (by simp)
  rw [← e12_1, ← e12_2] at f10
  rw [← e12_0]
  have fr12 : ∀ k, ¬ (k = (0, 0, 0, 0) ∨ k = (1, 0, 0, 0) ∨ k = (2, 0, 0, 0) ∨ k = (3, 0, 0, 0) ∨ k = (4, 0, 0, 0) ∨ k = (6, 0, 0, 0)) → M10 k = M k ∧ ad11 k = ad k := fun k hk => ⟨(fr10 k hk).1, by rw [had11 k (fun q => hk (by simp [q]))] <;> exact (fr10 k hk).2⟩
  refine G_nm (fun M13 hM13 => ?_)
  have f13_0 : M13 (0, 0, 0, 0) = some (.inr (7, [.ref (ad11 (4, 0, 0, 0)), .ref (ad11 (6, 0, 0, 0)), .null, .null, .int (zI 0), .int (zI 0), .int (zI 0), .int (zI 0), .int (zI 0)])) := by rw [hM13, zup1_n _ _ (by simp)]; exact f10
  have f13_1 : M13 (4, 0, 0, 0) = some (zLi 0 (z_d Γ).2.2.1 0) := by rw [hM13, zup1_n _ _ (by simp)]; exact f10_1
  have f13_2 : M13 (6, 0, 0, 0) = some (zLi 0 (z_d Γ).2.2.1 0) := by rw [hM13, zup1_n _ _ (by simp)]; exact f10_2
  have g13_0 : M13 (2, 0, 0, 0) = none := by rw [hM13, zup1_n _ _ (by simp)]; exact g10_1
  have g13_1 : M13 (3, 0, 0, 0) = none := by rw [hM13, zup1_n _ _ (by simp)]; exact g10_2
  have f13 : M13 (1, 0, 0, 0) = some (.inr (2, [.null, .int (zI 0)])) := by rw [hM13]; exact zup1_s _ _ _
  have fr13 : ∀ k, ¬ (k = (0, 0, 0, 0) ∨ k = (1, 0, 0, 0) ∨ k = (2, 0, 0, 0) ∨ k = (3, 0, 0, 0) ∨ k = (4, 0, 0, 0) ∨ k = (6, 0, 0, 0)) → M13 k = M k ∧ ad11 k = ad k := fun k hk => ⟨by rw [hM13, zup1_n _ _ (fun q => hk (by simp [q]))] <;> exact (fr12 k hk).1, (fr12 k hk).2⟩
  refine G_dup (pc := 30) dX6_init_30 rfl ?_
  refine G_callIN (pc := 31) (mc := 1) (ms := 1000) gk_X6_21 dX6_init_31 (c_X1_init f13 g13_0) rfl rfl (Nat.le_of_ble_eq_true rfl) ⟨⟨Nat.le_of_ble_eq_true rfl, Nat.le_of_ble_eq_true rfl⟩, Nat.le_of_ble_eq_true rfl, Nat.le_of_ble_eq_true rfl⟩ (fun v14 ad14 M14 hpo => ?_)
  obtain ⟨rfl, hfr14, p14_0, p14_1, hme14⟩ := hpo
  have ea14_0 : ad14 (0, 0, 0, 0) = ad11 (0, 0, 0, 0) := (hfr14 (0, 0, 0, 0) (by simp)).2
  have ea14_1 : ad14 (1, 0, 0, 0) = ad11 (1, 0, 0, 0) := hme14
  have ea14_2 : ad14 (4, 0, 0, 0) = ad11 (4, 0, 0, 0) := (hfr14 (4, 0, 0, 0) (by simp)).2
  have ea14_3 : ad14 (6, 0, 0, 0) = ad11 (6, 0, 0, 0) := (hfr14 (6, 0, 0, 0) (by simp)).2
  have fc14_0 := (hfr14 (0, 0, 0, 0) (by simp)).1.trans f13_0
  rw [← ea14_2, ← ea14_3] at fc14_0
  have fc14_1 := (hfr14 (4, 0, 0, 0) (by simp)).1.trans f13_1
  have fc14_2 := (hfr14 (6, 0, 0, 0) (by simp)).1.trans f13_2
  have gc14_1 := (hfr14 (3, 0, 0, 0) (by simp)).1.trans g13_1
  rw [← ea14_0, ← ea14_1]
  have frc14 : ∀ k, ¬ (k = (0, 0, 0, 0) ∨ k = (1, 0, 0, 0) ∨ k = (2, 0, 0, 0) ∨ k = (3, 0, 0, 0) ∨ k = (4, 0, 0, 0) ∨ k = (6, 0, 0, 0)) → M14 k = M k ∧ ad14 k = ad k := fun k hk => ⟨(hfr14 k (fun q => hk (by rcases q with q | q <;> simp [q]))).1.trans (fr13 k hk).1, (hfr14 k (fun q => hk (by rcases q with q | q <;> simp [q]))).2.trans (fr13 k hk).2⟩
  refine G_putF (pc := 34) fl_X6_22 ff_X6_22 hF.2.1 dX6_init_34 fc14_0 (Nat.le_of_ble_eq_true rfl) rfl rfl rfl ?_
  refine G_nm (fun M15 hM15 => ?_)
  have f15_1 : M15 (4, 0, 0, 0) = some (zLi 0 (z_d Γ).2.2.1 0) := by rw [hM15, zup1_n _ _ (by simp)]; exact fc14_1
  have f15_2 : M15 (6, 0, 0, 0) = some (zLi 0 (z_d Γ).2.2.1 0) := by rw [hM15, zup1_n _ _ (by simp)]; exact fc14_2
  have f15_3 : M15 (1, 0, 0, 0) = some (.inr (2, [.ref (ad14 (2, 0, 0, 0)), .int (zI 0)])) := by rw [hM15, zup1_n _ _ (by simp)]; exact p14_0
  have f15_4 : M15 (2, 0, 0, 0) = some (.inl ((z_d Γ).2.1 0, 1000, .inl (zAi (fun _ => 0)))) := by rw [hM15, zup1_n _ _ (by simp)]; exact p14_1
  have g15_0 : M15 (3, 0, 0, 0) = none := by rw [hM15, zup1_n _ _ (by simp)]; exact gc14_1
  have f15 : M15 (0, 0, 0, 0) = some (.inr (7, [.ref (ad14 (4, 0, 0, 0)), .ref (ad14 (6, 0, 0, 0)), .ref (ad14 (1, 0, 0, 0)), .null, .int (zI 0), .int (zI 0), .int (zI 0), .int (zI 0), .int (zI 0)])) := by rw [hM15]; exact zup1_s _ _ _
  have fr15 : ∀ k, ¬ (k = (0, 0, 0, 0) ∨ k = (1, 0, 0, 0) ∨ k = (2, 0, 0, 0) ∨ k = (3, 0, 0, 0) ∨ k = (4, 0, 0, 0) ∨ k = (6, 0, 0, 0)) → M15 k = M k ∧ ad14 k = ad k := fun k hk => ⟨by rw [hM15, zup1_n _ _ (fun q => hk (by simp [q]))] <;> exact (frc14 k hk).1, (frc14 k hk).2⟩
  refine G_aload_n (pc := 37) 0 0 dX6_init_37 rfl rfl ?_
  refine G_iconst (pc := 38) dX6_init_38 ?_
  refine G_rZ (pc := 39) (N := 4) (3, 0, 0, 0) dX6_init_39 g15_0 rfl ⟨by omega, by omega⟩ ⟨Nat.le_of_ble_eq_true rfl, Nat.le_of_ble_eq_true rfl⟩ (fun ad16 had16 => ?_)
  have e17_0 := had16 (0, 0, 0, 0) (by simp)
  have e17_1 := had16 (1, 0, 0, 0) (by simp)
  have e17_2 := had16 (2, 0, 0, 0) (by simp)
  have e17_3 := had16 (4, 0, 0, 0) (by simp)
  have e17_4 := had16 (6, 0, 0, 0) (by simp)
  rw [← e17_1, ← e17_3, ← e17_4] at f15
  rw [← e17_2] at f15_3
  rw [← e17_0]
  have fr17 : ∀ k, ¬ (k = (0, 0, 0, 0) ∨ k = (1, 0, 0, 0) ∨ k = (2, 0, 0, 0) ∨ k = (3, 0, 0, 0) ∨ k = (4, 0, 0, 0) ∨ k = (6, 0, 0, 0)) → M15 k = M k ∧ ad16 k = ad k := fun k hk => ⟨(fr15 k hk).1, by rw [had16 k (fun q => hk (by simp [q]))] <;> exact (fr15 k hk).2⟩
  refine G_nm (fun M18 hM18 => ?_)
  have f18_0 : M18 (0, 0, 0, 0) = some (.inr (7, [.ref (ad16 (4, 0, 0, 0)), .ref (ad16 (6, 0, 0, 0)), .ref (ad16 (1, 0, 0, 0)), .null, .int (zI 0), .int (zI 0), .int (zI 0), .int (zI 0), .int (zI 0)])) := by rw [hM18, zup1_n _ _ (by simp)]; exact f15
  have f18_1 : M18 (4, 0, 0, 0) = some (zLi 0 (z_d Γ).2.2.1 0) := by rw [hM18, zup1_n _ _ (by simp)]; exact f15_1
  have f18_2 : M18 (6, 0, 0, 0) = some (zLi 0 (z_d Γ).2.2.1 0) := by rw [hM18, zup1_n _ _ (by simp)]; exact f15_2
  have f18_3 : M18 (1, 0, 0, 0) = some (.inr (2, [.ref (ad16 (2, 0, 0, 0)), .int (zI 0)])) := by rw [hM18, zup1_n _ _ (by simp)]; exact f15_3
  have f18_4 : M18 (2, 0, 0, 0) = some (.inl ((z_d Γ).2.1 0, 1000, .inl (zAi (fun _ => 0)))) := by rw [hM18, zup1_n _ _ (by simp)]; exact f15_4
  have f18 : M18 (3, 0, 0, 0) = some (.inl ((z_d Γ).2.1 1, 4, .inl (zAi (fun _ => 0)))) := by rw [hM18]; exact zup1_s _ _ _
  have fr18 : ∀ k, ¬ (k = (0, 0, 0, 0) ∨ k = (1, 0, 0, 0) ∨ k = (2, 0, 0, 0) ∨ k = (3, 0, 0, 0) ∨ k = (4, 0, 0, 0) ∨ k = (6, 0, 0, 0)) → M18 k = M k ∧ ad16 k = ad k := fun k hk => ⟨by rw [hM18, zup1_n _ _ (fun q => hk (by simp [q]))] <;> exact (fr17 k hk).1, (fr17 k hk).2⟩
  refine G_putF (pc := 41) fl_X6_26 ff_X6_26 hF.2.1 dX6_init_41 f18_0 (Nat.le_of_ble_eq_true rfl) rfl rfl rfl ?_
  refine G_nm (fun M19 hM19 => ?_)
  have f19_1 : M19 (4, 0, 0, 0) = some (zLi 0 (z_d Γ).2.2.1 0) := by rw [hM19, zup1_n _ _ (by simp)]; exact f18_1
  have f19_2 : M19 (6, 0, 0, 0) = some (zLi 0 (z_d Γ).2.2.1 0) := by rw [hM19, zup1_n _ _ (by simp)]; exact f18_2
  have f19_3 : M19 (1, 0, 0, 0) = some (.inr (2, [.ref (ad16 (2, 0, 0, 0)), .int (zI 0)])) := by rw [hM19, zup1_n _ _ (by simp)]; exact f18_3
  have f19_4 : M19 (2, 0, 0, 0) = some (.inl ((z_d Γ).2.1 0, 1000, .inl (zAi (fun _ => 0)))) := by rw [hM19, zup1_n _ _ (by simp)]; exact f18_4
  have f19_5 : M19 (3, 0, 0, 0) = some (.inl ((z_d Γ).2.1 1, 4, .inl (zAi (fun _ => 0)))) := by rw [hM19, zup1_n _ _ (by simp)]; exact f18
  have f19 : M19 (0, 0, 0, 0) = some (.inr (7, [.ref (ad16 (4, 0, 0, 0)), .ref (ad16 (6, 0, 0, 0)), .ref (ad16 (1, 0, 0, 0)), .ref (ad16 (3, 0, 0, 0)), .int (zI 0), .int (zI 0), .int (zI 0), .int (zI 0), .int (zI 0)])) := by rw [hM19]; exact zup1_s _ _ _
  have fr19 : ∀ k, ¬ (k = (0, 0, 0, 0) ∨ k = (1, 0, 0, 0) ∨ k = (2, 0, 0, 0) ∨ k = (3, 0, 0, 0) ∨ k = (4, 0, 0, 0) ∨ k = (6, 0, 0, 0)) → M19 k = M k ∧ ad16 k = ad k := fun k hk => ⟨by rw [hM19, zup1_n _ _ (fun q => hk (by simp [q]))] <;> exact (fr18 k hk).1, (fr18 k hk).2⟩
  refine G_aload_n (pc := 44) 0 0 dX6_init_44 rfl rfl ?_
  refine G_iconst (pc := 45) dX6_init_45 ?_
  refine G_putf (pc := 46) fl_X6_30 fp_X6_4 dX6_init_46 f19 (Nat.le_of_ble_eq_true rfl) rfl rfl rfl ?_
  refine G_nm (fun M20 hM20 => ?_)
  have f20_1 : M20 (4, 0, 0, 0) = some (zLi 0 (z_d Γ).2.2.1 0) := by rw [hM20, zup1_n _ _ (by simp)]; exact f19_1
  have f20_2 : M20 (6, 0, 0, 0) = some (zLi 0 (z_d Γ).2.2.1 0) := by rw [hM20, zup1_n _ _ (by simp)]; exact f19_2
  have f20_3 : M20 (1, 0, 0, 0) = some (.inr (2, [.ref (ad16 (2, 0, 0, 0)), .int (zI 0)])) := by rw [hM20, zup1_n _ _ (by simp)]; exact f19_3
  have f20_4 : M20 (2, 0, 0, 0) = some (.inl ((z_d Γ).2.1 0, 1000, .inl (zAi (fun _ => 0)))) := by rw [hM20, zup1_n _ _ (by simp)]; exact f19_4
  have f20_5 : M20 (3, 0, 0, 0) = some (.inl ((z_d Γ).2.1 1, 4, .inl (zAi (fun _ => 0)))) := by rw [hM20, zup1_n _ _ (by simp)]; exact f19_5
  have f20 : M20 (0, 0, 0, 0) = some (.inr (7, [.ref (ad16 (4, 0, 0, 0)), .ref (ad16 (6, 0, 0, 0)), .ref (ad16 (1, 0, 0, 0)), .ref (ad16 (3, 0, 0, 0)), .int (zI 0), .int (zI 0), .int (zI 0), .int (zI 0), .int (zI 0)])) := by rw [hM20]; exact zup1_s _ _ _
  have fr20 : ∀ k, ¬ (k = (0, 0, 0, 0) ∨ k = (1, 0, 0, 0) ∨ k = (2, 0, 0, 0) ∨ k = (3, 0, 0, 0) ∨ k = (4, 0, 0, 0) ∨ k = (6, 0, 0, 0)) → M20 k = M k ∧ ad16 k = ad k := fun k hk => ⟨by rw [hM20, zup1_n _ _ (fun q => hk (by simp [q]))] <;> exact (fr19 k hk).1, (fr19 k hk).2⟩
  refine G_aload_n (pc := 49) 0 0 dX6_init_49 rfl rfl ?_
  refine G_iconst (pc := 50) dX6_init_50 ?_
  refine G_putf (pc := 51) fl_X6_34 fp_X6_5 dX6_init_51 f20 (Nat.le_of_ble_eq_true rfl) rfl rfl rfl ?_
  refine G_nm (fun M21 hM21 => ?_)
  have f21_1 : M21 (4, 0, 0, 0) = some (zLi 0 (z_d Γ).2.2.1 0) := by rw [hM21, zup1_n _ _ (by simp)]; exact f20_1
  have f21_2 : M21 (6, 0, 0, 0) = some (zLi 0 (z_d Γ).2.2.1 0) := by rw [hM21, zup1_n _ _ (by simp)]; exact f20_2
  have f21_3 : M21 (1, 0, 0, 0) = some (.inr (2, [.ref (ad16 (2, 0, 0, 0)), .int (zI 0)])) := by rw [hM21, zup1_n _ _ (by simp)]; exact f20_3
  have f21_4 : M21 (2, 0, 0, 0) = some (.inl ((z_d Γ).2.1 0, 1000, .inl (zAi (fun _ => 0)))) := by rw [hM21, zup1_n _ _ (by simp)]; exact f20_4
  have f21_5 : M21 (3, 0, 0, 0) = some (.inl ((z_d Γ).2.1 1, 4, .inl (zAi (fun _ => 0)))) := by rw [hM21, zup1_n _ _ (by simp)]; exact f20_5
  have f21 : M21 (0, 0, 0, 0) = some (.inr (7, [.ref (ad16 (4, 0, 0, 0)), .ref (ad16 (6, 0, 0, 0)), .ref (ad16 (1, 0, 0, 0)), .ref (ad16 (3, 0, 0, 0)), .int (zI 0), .int (zI 0), .int (zI 0), .int (zI 0), .int (zI 0)])) := by rw [hM21]; exact zup1_s _ _ _
  have fr21 : ∀ k, ¬ (k = (0, 0, 0, 0) ∨ k = (1, 0, 0, 0) ∨ k = (2, 0, 0, 0) ∨ k = (3, 0, 0, 0) ∨ k = (4, 0, 0, 0) ∨ k = (6, 0, 0, 0)) → M21 k = M k ∧ ad16 k = ad k := fun k hk => ⟨by rw [hM21, zup1_n _ _ (fun q => hk (by simp [q]))] <;> exact (fr20 k hk).1, (fr20 k hk).2⟩
  refine G_aload_n (pc := 54) 0 0 dX6_init_54 rfl rfl ?_
  refine G_iconst (pc := 55) dX6_init_55 ?_
  refine G_putf (pc := 56) fl_X6_37 fp_X6_6 dX6_init_56 f21 (Nat.le_of_ble_eq_true rfl) rfl rfl rfl ?_
  refine G_nm (fun M22 hM22 => ?_)
  have f22_1 : M22 (4, 0, 0, 0) = some (zLi 0 (z_d Γ).2.2.1 0) := by rw [hM22, zup1_n _ _ (by simp)]; exact f21_1
  have f22_2 : M22 (6, 0, 0, 0) = some (zLi 0 (z_d Γ).2.2.1 0) := by rw [hM22, zup1_n _ _ (by simp)]; exact f21_2
  have f22_3 : M22 (1, 0, 0, 0) = some (.inr (2, [.ref (ad16 (2, 0, 0, 0)), .int (zI 0)])) := by rw [hM22, zup1_n _ _ (by simp)]; exact f21_3
  have f22_4 : M22 (2, 0, 0, 0) = some (.inl ((z_d Γ).2.1 0, 1000, .inl (zAi (fun _ => 0)))) := by rw [hM22, zup1_n _ _ (by simp)]; exact f21_4
  have f22_5 : M22 (3, 0, 0, 0) = some (.inl ((z_d Γ).2.1 1, 4, .inl (zAi (fun _ => 0)))) := by rw [hM22, zup1_n _ _ (by simp)]; exact f21_5
  have f22 : M22 (0, 0, 0, 0) = some (.inr (7, [.ref (ad16 (4, 0, 0, 0)), .ref (ad16 (6, 0, 0, 0)), .ref (ad16 (1, 0, 0, 0)), .ref (ad16 (3, 0, 0, 0)), .int (zI 0), .int (zI 0), .int (zI 0), .int (zI 0), .int (zI 0)])) := by rw [hM22]; exact zup1_s _ _ _
  have fr22 : ∀ k, ¬ (k = (0, 0, 0, 0) ∨ k = (1, 0, 0, 0) ∨ k = (2, 0, 0, 0) ∨ k = (3, 0, 0, 0) ∨ k = (4, 0, 0, 0) ∨ k = (6, 0, 0, 0)) → M22 k = M k ∧ ad16 k = ad k := fun k hk => ⟨by rw [hM22, zup1_n _ _ (fun q => hk (by simp [q]))] <;> exact (fr21 k hk).1, (fr21 k hk).2⟩
  refine G_aload_n (pc := 59) 0 0 dX6_init_59 rfl rfl ?_
  refine G_iconst (pc := 60) dX6_init_60 ?_
  refine G_putf (pc := 61) fl_X6_40 fp_X6_7 dX6_init_61 f22 (Nat.le_of_ble_eq_true rfl) rfl rfl rfl ?_
  refine G_nm (fun M23 hM23 => ?_)
  have f23_1 : M23 (4, 0, 0, 0) = some (zLi 0 (z_d Γ).2.2.1 0) := by rw [hM23, zup1_n _ _ (by simp)]; exact f22_1
  have f23_2 : M23 (6, 0, 0, 0) = some (zLi 0 (z_d Γ).2.2.1 0) := by rw [hM23, zup1_n _ _ (by simp)]; exact f22_2
  have f23_3 : M23 (1, 0, 0, 0) = some (.inr (2, [.ref (ad16 (2, 0, 0, 0)), .int (zI 0)])) := by rw [hM23, zup1_n _ _ (by simp)]; exact f22_3
  have f23_4 : M23 (2, 0, 0, 0) = some (.inl ((z_d Γ).2.1 0, 1000, .inl (zAi (fun _ => 0)))) := by rw [hM23, zup1_n _ _ (by simp)]; exact f22_4
  have f23_5 : M23 (3, 0, 0, 0) = some (.inl ((z_d Γ).2.1 1, 4, .inl (zAi (fun _ => 0)))) := by rw [hM23, zup1_n _ _ (by simp)]; exact f22_5
  have f23 : M23 (0, 0, 0, 0) = some (.inr (7, [.ref (ad16 (4, 0, 0, 0)), .ref (ad16 (6, 0, 0, 0)), .ref (ad16 (1, 0, 0, 0)), .ref (ad16 (3, 0, 0, 0)), .int (zI 0), .int (zI 0), .int (zI 0), .int (zI 2), .int (zI 0)])) := by rw [hM23]; exact zup1_s _ _ _
  have fr23 : ∀ k, ¬ (k = (0, 0, 0, 0) ∨ k = (1, 0, 0, 0) ∨ k = (2, 0, 0, 0) ∨ k = (3, 0, 0, 0) ∨ k = (4, 0, 0, 0) ∨ k = (6, 0, 0, 0)) → M23 k = M k ∧ ad16 k = ad k := fun k hk => ⟨by rw [hM23, zup1_n _ _ (fun q => hk (by simp [q]))] <;> exact (fr22 k hk).1, (fr22 k hk).2⟩
  refine G_aload_n (pc := 64) 0 0 dX6_init_64 rfl rfl ?_
  refine G_bipush (pc := 65) dX6_init_65 (by decide) ?_
  refine G_putf (pc := 67) fl_X6_43 fp_X6_8 dX6_init_67 f23 (Nat.le_of_ble_eq_true rfl) rfl rfl rfl ?_
  refine G_nm (fun M24 hM24 => ?_)
  have f24_1 : M24 (4, 0, 0, 0) = some (zLi 0 (z_d Γ).2.2.1 0) := by rw [hM24, zup1_n _ _ (by simp)]; exact f23_1
  have f24_2 : M24 (6, 0, 0, 0) = some (zLi 0 (z_d Γ).2.2.1 0) := by rw [hM24, zup1_n _ _ (by simp)]; exact f23_2
  have f24_3 : M24 (1, 0, 0, 0) = some (.inr (2, [.ref (ad16 (2, 0, 0, 0)), .int (zI 0)])) := by rw [hM24, zup1_n _ _ (by simp)]; exact f23_3
  have f24_4 : M24 (2, 0, 0, 0) = some (.inl ((z_d Γ).2.1 0, 1000, .inl (zAi (fun _ => 0)))) := by rw [hM24, zup1_n _ _ (by simp)]; exact f23_4
  have f24_5 : M24 (3, 0, 0, 0) = some (.inl ((z_d Γ).2.1 1, 4, .inl (zAi (fun _ => 0)))) := by rw [hM24, zup1_n _ _ (by simp)]; exact f23_5
  have f24 : M24 (0, 0, 0, 0) = some (.inr (7, [.ref (ad16 (4, 0, 0, 0)), .ref (ad16 (6, 0, 0, 0)), .ref (ad16 (1, 0, 0, 0)), .ref (ad16 (3, 0, 0, 0)), .int (zI 0), .int (zI 0), .int (zI 0), .int (zI 2), .int (zI 10)])) := by rw [hM24]; exact zup1_s _ _ _
  have fr24 : ∀ k, ¬ (k = (0, 0, 0, 0) ∨ k = (1, 0, 0, 0) ∨ k = (2, 0, 0, 0) ∨ k = (3, 0, 0, 0) ∨ k = (4, 0, 0, 0) ∨ k = (6, 0, 0, 0)) → M24 k = M k ∧ ad16 k = ad k := fun k hk => ⟨by rw [hM24, zup1_n _ _ (fun q => hk (by simp [q]))] <;> exact (fr23 k hk).1, (fr23 k hk).2⟩
  exact G_vret (pc := 70) hF dX6_init_70 ⟨Nat.le_of_ble_eq_true rfl, Nat.le_of_ble_eq_true rfl⟩ ⟨rfl, fun k hk => fr24 k hk, f24, f24_3, f24_4, f24_5, f24_1, f24_2, e17_0.trans ((hfr14 _ (by simp)).2.trans (e12_0.trans (e7_0.trans e2_0)))⟩
